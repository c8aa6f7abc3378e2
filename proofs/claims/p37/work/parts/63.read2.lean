/-! The reading of laws: sums. -/
/-- signs that wait are noted, from the top on -/
def zp_cs (e0 : Nat) (D w : Int → Int) (len cm wt d : Int) (D' said' : Int → Int) (pl cm' wt' d' : Int) : Prop :=
  zp_s e0 D' said' w pl len cm' wt' d' ∧ (∀ k, k ≤ cm → D' k = D k) ∧ wt' ≤ wt ∧ d' = d - (wt - wt') ∧ cm ≤ cm' ∧ (∀ i, wt' ≤ i → i < wt → 2 ≤ w i / 1048576 ∧ w i / 1048576 ≤ 6) ∧ zp_pn w wt = zp_pn w wt' + (wt - wt') ∧ cm' + wt' = cm + wt
theorem zp_cs_rf {e0 : Nat} {D said w : Int → Int} {pl len cm wt d : Int} (h : zp_s e0 D said w pl len cm wt d) : zp_cs e0 D w len cm wt d D said pl cm wt d :=
  ⟨h, fun _ _ => rfl, Int.le_refl _, by omega, Int.le_refl _, fun i h1 h2 => absurd h1 (by omega), by omega, rfl⟩
theorem zp_cs_st {e0 : Nat} {D said w D' said' : Int → Int} {pl len cm wt d cm' wt' d' o : Int} (h : zp_s e0 D said w pl len cm wt d) (h0 : 0 < wt) (ho : o = w (wt - 1) / 1048576) (h1 : 2 ≤ o ∧ o ≤ 6) (h2 : 2 ≤ d) :
    zp_s e0 (zn_up D (cm + 1) (d - 1)) (zn_up said cm (1048576 * o + 0)) w pl len (cm + 1) (wt - 1) (d - 1) ∧ (zp_cs e0 (zn_up D (cm + 1) (d - 1)) w len (cm + 1) (wt - 1) (d - 1) D' said' pl cm' wt' d' → zp_cs e0 D w len cm wt d D' said' pl cm' wt' d') := by
  obtain ⟨g1, g2⟩ := zp_pop h h0 (by omega)
  rw [if_pos (by omega)] at g2
  have hb := h.1
  refine ⟨zp_note g1 (by omega) (by omega) (by omega) (by omega) (Or.inr (Or.inr (Or.inl (by omega)))), fun ⟨a1, a2, a3, a4, a5, a6, a7, a8⟩ => ⟨a1, fun k hk => ?_, by omega, by omega, by omega, fun i i1 i2 => ?_, by omega, by omega⟩⟩
  · rw [a2 k (by omega), zn_up_n (by omega)]
  · by_cases e : i = wt - 1
    · subst e; omega
    · exact a6 i i1 (by omega)
/-- all signs at the top -/
def zp_run (w : Int → Int) (wt d : Int) : Prop := ∀ j, 0 ≤ j → j ≤ wt → (∀ i, j ≤ i → i < wt → 2 ≤ w i / 1048576 ∧ w i / 1048576 ≤ 6) → wt - j + 1 ≤ d
theorem zp_run_st {w : Int → Int} {wt d : Int} (h : zp_run w wt d) (h0 : 0 < wt) (h1 : 2 ≤ w (wt - 1) / 1048576 ∧ w (wt - 1) / 1048576 ≤ 6) : 2 ≤ d ∧ zp_run w (wt - 1) (d - 1) := by
  have ext : ∀ j, (∀ i, j ≤ i → i < wt - 1 → 2 ≤ w i / 1048576 ∧ w i / 1048576 ≤ 6) → ∀ i, j ≤ i → i < wt → 2 ≤ w i / 1048576 ∧ w i / 1048576 ≤ 6 := by
    intro j hj i i1 i2
    by_cases e : i = wt - 1
    · rw [e]; exact h1
    · exact hj i i1 (by omega)
  refine ⟨?_, fun j j1 j2 j3 => ?_⟩
  · have := h (wt - 1) (by omega) (by omega) (ext _ (fun i i1 i2 => by omega))
    omega
  · have := h j j1 (by omega) (ext j j3)
    omega
/-- a factor: what comes to be -/
def zp_f (D w : Int → Int) (pl cm wt : Int) (D' w' : Int → Int) (pl' cm' wt' : Int) : Prop :=
  (∀ k, k ≤ cm → D' k = D k) ∧ cm ≤ cm' ∧ wt ≤ wt' ∧ (∀ j, j < wt → w' j = w j) ∧ (∀ j, wt ≤ j → j < wt' → w' j / 1048576 = 14) ∧ zp_pn w' wt' = zp_pn w wt ∧ pl ≤ pl'
theorem zp_f_rf {D w : Int → Int} {pl cm wt : Int} : zp_f D w pl cm wt D w pl cm wt := ⟨fun _ _ => rfl, Int.le_refl _, Int.le_refl _, fun _ _ => rfl, fun j h1 h2 => absurd h1 (by omega), rfl, Int.le_refl _⟩
theorem zp_f_open {D w D' w' : Int → Int} {pl cm wt pl' cm' wt' : Int} (h0 : 0 ≤ wt) (h : zp_f D (zn_up w wt (1048576 * 14)) (pl + 1) cm (wt + 1) D' w' pl' cm' wt') : zp_f D w pl cm wt D' w' pl' cm' wt' := by
  obtain ⟨a1, a2, a3, a4, a5, a6, a7⟩ := h
  refine ⟨a1, a2, by omega, fun j hj => ?_, fun j j1 j2 => ?_, ?_, by omega⟩
  · rw [a4 j (by omega), zn_up_n (by omega)]
  · by_cases e : j = wt
    · subst e; rw [a4 j (by omega), zn_up_s]; omega
    · exact a5 j (by omega) j2
  · rw [a6, zp_pn_s h0, zp_pn_up (Int.le_refl _), zn_up_s, if_neg (by omega)]; omega
theorem zp_f_note {D w : Int → Int} {pl cm wt v pl' : Int} (h : pl ≤ pl') : zp_f D w pl cm wt (zn_up D (cm + 1) v) w pl' (cm + 1) wt :=
  ⟨fun k hk => zn_up_n (by omega), by omega, Int.le_refl _, fun _ _ => rfl, fun j h1 h2 => absurd h1 (by omega), rfl, h⟩
/-- a sum on its way -/
def zp_b (D w : Int → Int) (pl cm wt d : Int) (D1 w1 : Int → Int) (pl1 cm1 wt1 d1 : Int) : Prop :=
  (∀ k, k ≤ cm → D1 k = D k) ∧ cm ≤ cm1 ∧ wt ≤ wt1 ∧ (∀ j, j < wt → w1 j = w j) ∧ (∀ j, wt ≤ j → j < wt1 → (2 ≤ w1 j / 1048576 ∧ w1 j / 1048576 ≤ 6) ∨ w1 j / 1048576 = 14) ∧ d1 = d + 1 + (zp_pn w1 wt1 - zp_pn w wt) ∧ pl < pl1
def zp_low0 (w : Int → Int) (wt : Int) : Prop := wt = 0 ∨ ¬ (2 ≤ w (wt - 1) / 1048576 ∧ w (wt - 1) / 1048576 ≤ 6)
theorem zp_b_base {D w D1 w1 : Int → Int} {pl cm wt d pl1 cm1 wt1 d1 j : Int} (h : zp_b D w pl cm wt d D1 w1 pl1 cm1 wt1 d1) (hl : zp_low0 w wt) (h0 : 0 ≤ j) (hj : ∀ i, j ≤ i → i < wt1 → 2 ≤ w1 i / 1048576 ∧ w1 i / 1048576 ≤ 6) : wt ≤ j := by
  obtain ⟨a1, a2, a3, a4, a5, a6, a7⟩ := h
  rcases Int.lt_or_le j wt with q | q
  · rcases hl with hl | hl
    · omega
    · have := hj (wt - 1) (by omega) (by omega)
      rw [a4 (wt - 1) (by omega)] at this
      exact absurd this hl
  · exact q
theorem zp_pn_run {w : Int → Int} {j : Int} (hj : 0 ≤ j) : ∀ (n : Nat), (∀ i, j ≤ i → i < j + n → 2 ≤ w i / 1048576 ∧ w i / 1048576 ≤ 6) → zp_pn w (j + n) = zp_pn w j + n := by
  intro n
  induction n with
  | zero => intro _; simp
  | succ n ih =>
    intro h
    have := ih (fun i i1 i2 => h i i1 (by omega))
    have e : j + ((n + 1 : Nat) : Int) = j + n + 1 := by omega
    rw [e, zp_pn_s (by omega), this, if_pos (Or.inl (h (j + n) (by omega) (by omega)))]
    omega
theorem zp_b_run {D w D1 w1 : Int → Int} {pl cm wt d pl1 cm1 wt1 d1 : Int} (h : zp_b D w pl cm wt d D1 w1 pl1 cm1 wt1 d1) (hl : zp_low0 w wt) (hd : 0 ≤ d) (hw : 0 ≤ wt) : zp_run w1 wt1 d1 := by
  intro j j1 j2 j3
  have jb := zp_b_base h hl j1 j3
  have e1 := zp_pn_run j1 (wt1 - j).toNat (fun i i1 i2 => j3 i i1 (by omega))
  rw [show j + (((wt1 - j).toNat : Nat) : Int) = wt1 by omega] at e1
  have e2 := zp_pn_le (w := w1) jb
  have e3 : zp_pn w1 wt = zp_pn w wt := zp_pn_cg fun k _ k2 => h.2.2.2.1 k k2
  have := h.2.2.2.2.2.1
  omega
/-- signs have been noted -/
theorem zp_b_cs {e0 : Nat} {D w D1 w1 D2 said2 : Int → Int} {pl cm wt d pl1 len cm1 wt1 d1 cm2 wt2 d2 : Int} (h : zp_b D w pl cm wt d D1 w1 pl1 cm1 wt1 d1) (hl : zp_low0 w wt) (hw2 : 0 ≤ wt2) (k : zp_cs e0 D1 w1 len cm1 wt1 d1 D2 said2 pl1 cm2 wt2 d2) : zp_b D w pl cm wt d D2 w1 pl1 cm2 wt2 d2 := by
  have jb := zp_b_base h hl hw2 k.2.2.2.2.2.1
  obtain ⟨a1, a2, a3, a4, a5, a6, a7⟩ := h
  obtain ⟨b1, b2, b3, b4, b5, b6, b7, b8⟩ := k
  exact ⟨fun x hx => by rw [b2 x (by omega), a1 x hx], by omega, jb, a4, fun j j1 j2 => a5 j j1 (by omega), by omega, a7⟩
/-- a sign comes to wait, and then a factor -/
theorem zp_b_sign {D w D1 w1 D3 w3 : Int → Int} {pl cm wt d pl1 cm1 wt1 d1 pl3 cm3 wt3 s : Int} (h : zp_b D w pl cm wt d D1 w1 pl1 cm1 wt1 d1) (h0 : 0 ≤ wt1) (hs : 2 ≤ s ∧ s ≤ 6) (hw : 0 ≤ wt) (k : zp_f D1 (zn_up w1 wt1 (1048576 * s)) (pl1 + 1) cm1 (wt1 + 1) D3 w3 pl3 cm3 wt3) : zp_b D w pl cm wt d D3 w3 pl3 cm3 wt3 (d1 + 1) := by
  obtain ⟨a1, a2, a3, a4, a5, a6, a7⟩ := h
  obtain ⟨b1, b2, b3, b4, b5, b6, b7⟩ := k
  have e : zp_pn (zn_up w1 wt1 (1048576 * s)) (wt1 + 1) = zp_pn w1 wt1 + 1 := by
    rw [zp_pn_s h0, zp_pn_up (Int.le_refl _), zn_up_s, if_pos (by omega)]
  refine ⟨fun x hx => by rw [b1 x (by omega), a1 x hx], by omega, by omega, fun j hj => ?_, fun j j1 j2 => ?_, by omega, by omega⟩
  · rw [b4 j (by omega), zn_up_n (by omega), a4 j hj]
  · by_cases e1 : j < wt1
    · rw [b4 j (by omega), zn_up_n (by omega)]; exact a5 j j1 e1
    · by_cases e2 : j = wt1
      · subst e2; rw [b4 j (by omega), zn_up_s]; omega
      · exact Or.inr (b5 j (by omega) j2)
/-- a bracket is closed -/
theorem zp_b_close {D w D1 w1 : Int → Int} {pl cm wt d pl1 cm1 wt1 d1 : Int} (h : zp_b D w pl cm wt d D1 w1 pl1 cm1 wt1 d1) (h0 : wt < wt1) (hw : 0 ≤ wt) (ht : w1 (wt1 - 1) / 1048576 = 14) : zp_b D w pl cm wt d D1 w1 (pl1 + 1) cm1 (wt1 - 1) d1 := by
  obtain ⟨a1, a2, a3, a4, a5, a6, a7⟩ := h
  have e := zp_pn_s (w := w1) (i := wt1 - 1) (by omega)
  rw [show wt1 - 1 + 1 = wt1 by omega, if_neg (by omega)] at e
  exact ⟨a1, a2, by omega, a4, fun j j1 j2 => a5 j j1 (by omega), by omega, by omega⟩
section ZREAD2
variable {e0 : Nat} {pl len fl op cm wt nb d : Int} {tape said w D : Int → Int} {Fr : List Int} {Gr : List (Int → Int)}
theorem zd228_0 : decode zxm228.2.1 0 = .ok (.aload_n 0, 1) := by decide +kernel
theorem zd228_1 : decode zxm228.2.1 1 = .ok (.invokevirtual 209, 3) := by decide +kernel
theorem zd228_4 : decode zxm228.2.1 4 = .ok (.iconst 4, 1) := by decide +kernel
theorem zd228_5 : decode zxm228.2.1 5 = .ok (.if_icmp .lt 12, 3) := by decide +kernel
theorem zd228_8 : decode zxm228.2.1 8 = .ok (.aload_n 0, 1) := by decide +kernel
theorem zd228_9 : decode zxm228.2.1 9 = .ok (.invokevirtual 209, 3) := by decide +kernel
theorem zd228_12 : decode zxm228.2.1 12 = .ok (.bipush 6, 2) := by decide +kernel
theorem zd228_14 : decode zxm228.2.1 14 = .ok (.if_icmp .le 23, 3) := by decide +kernel
theorem zd228_17 : decode zxm228.2.1 17 = .ok (.iload_n 1, 1) := by decide +kernel
theorem zd228_18 : decode zxm228.2.1 18 = .ok (.ifCond .eq 41, 3) := by decide +kernel
theorem zd228_21 : decode zxm228.2.1 21 = .ok (.aload_n 0, 1) := by decide +kernel
theorem zd228_22 : decode zxm228.2.1 22 = .ok (.invokevirtual 209, 3) := by decide +kernel
theorem zd228_25 : decode zxm228.2.1 25 = .ok (.iconst 2, 1) := by decide +kernel
theorem zd228_26 : decode zxm228.2.1 26 = .ok (.if_icmp .eq 11, 3) := by decide +kernel
theorem zd228_29 : decode zxm228.2.1 29 = .ok (.aload_n 0, 1) := by decide +kernel
theorem zd228_30 : decode zxm228.2.1 30 = .ok (.invokevirtual 209, 3) := by decide +kernel
theorem zd228_33 : decode zxm228.2.1 33 = .ok (.iconst 3, 1) := by decide +kernel
theorem zd228_34 : decode zxm228.2.1 34 = .ok (.if_icmp .ne 25, 3) := by decide +kernel
theorem zd228_37 : decode zxm228.2.1 37 = .ok (.aload_n 0, 1) := by decide +kernel
theorem zd228_38 : decode zxm228.2.1 38 = .ok (.aload_n 0, 1) := by decide +kernel
theorem zd228_39 : decode zxm228.2.1 39 = .ok (.invokevirtual 209, 3) := by decide +kernel
theorem zd228_42 : decode zxm228.2.1 42 = .ok (.iconst 0, 1) := by decide +kernel
theorem zd228_43 : decode zxm228.2.1 43 = .ok (.invokevirtual 212, 3) := by decide +kernel
theorem zd228_46 : decode zxm228.2.1 46 = .ok (.aload_n 0, 1) := by decide +kernel
theorem zd228_47 : decode zxm228.2.1 47 = .ok (.aload_n 0, 1) := by decide +kernel
theorem zd228_48 : decode zxm228.2.1 48 = .ok (.getfield 206, 3) := by decide +kernel
theorem zd228_51 : decode zxm228.2.1 51 = .ok (.iconst 1, 1) := by decide +kernel
theorem zd228_52 : decode zxm228.2.1 52 = .ok (.isub, 1) := by decide +kernel
theorem zd228_53 : decode zxm228.2.1 53 = .ok (.putfield 206, 3) := by decide +kernel
theorem zd228_56 : decode zxm228.2.1 56 = .ok (.goto (-56), 3) := by decide +kernel
theorem zd228_59 : decode zxm228.2.1 59 = .ok (.return_, 1) := by decide +kernel
theorem zh228 {al : Int} : zn_OK z_TB z_cl z_KX zyM zxm228 (1, 60) (fun va F G => va = [.inr 0, .inl al] ∧ F = pl :: len :: fl :: op :: cm :: wt :: Fr ∧ G = tape :: said :: w :: Gr ∧ zp_s e0 D said w pl len cm wt d ∧ zp_run w wt d) (fun va F G r F' G' => r = none ∧ ∃ D' said' cm' wt' d', F' = pl :: len :: fl :: op :: cm' :: wt' :: Fr ∧ G' = tape :: said' :: w :: Gr ∧ zp_cs e0 D w len cm wt d D' said' pl cm' wt' d' ∧ (al ≠ 0 → zp_low0 w wt')) := zn_meth (K := zkM) (FT := z_FT) (MT := z_MT) (n := 2) zxp228 (z_ks13 _ (fun _ h => List.mem_cons_of_mem _ h) _ _ _ _ (fun j r h _ => by cases h)) (fun _ _ => zs_KX_p) (by decide +kernel) (fun va F G h => by obtain ⟨rfl, _⟩ := h; rfl) rfl fun good va F G hB hret hvret hP => by
  obtain ⟨rfl, rfl, rfl, hs, hd⟩ := hP
  have key : ∀ (n : Nat) (D said : Int → Int) (cm wt d : Int), zp_s e0 D said w pl len cm wt d → zp_run w wt d → wt < n → (∀ D' said' cm' wt' d', zp_cs e0 D w len cm wt d D' said' pl cm' wt' d' → (al ≠ 0 → zp_low0 w wt') → good 59 [.inr 0, .inl al] [] (pl :: len :: fl :: op :: cm' :: wt' :: Fr) (tape :: said' :: w :: Gr)) → good 0 [.inr 0, .inl al] [] (pl :: len :: fl :: op :: cm :: wt :: Fr) (tape :: said :: w :: Gr) := by
    intro n
    induction n with
    | zero => exact fun D said cm wt d hs _ hn => absurd hs.1.2.1 (by omega)
    | succ n ih =>
      intro D said cm wt d hs hd hn fin
      obtain ⟨a1, a2, a3, a4, a5, a6, a7, a8⟩ := hs.1
      have hw : 0 < wt → 0 ≤ w (wt - 1) := fun h => (hs.2.2 (wt - 1) (by omega) (by omega)).1
      have hpn := zp_pn_nn (w := w) (a := wt)
      have body : 2 ≤ zp_t w wt → zp_t w wt ≤ 6 → good 37 [.inr 0, .inl al] [] (pl :: len :: fl :: op :: cm :: wt :: Fr) (tape :: said :: w :: Gr) := by
        intro t1 t2
        obtain ⟨t3, t4⟩ := zp_t_pos (w := w) (wt := wt) (by omega)
        have g := zp_run_st hd (by omega) (by omega)
        have hp1 := (zp_pop hs (by omega) (by omega)).2
        rw [if_pos (by omega)] at hp1
        have hp2 := zp_pn_nn (w := w) (a := wt - 1)
        refine zn_ald hB zd228_37 rfl rfl rfl ?_
        refine zn_ald hB zd228_38 rfl rfl rfl ?_
        refine zn_iv0 hB (zh229 (pl := pl) (wt := wt) (w := w)) zd228_39 zxt229 rfl ⟨rfl, rfl, rfl, by omega, by omega, hw⟩ (fun r39 F39 G39 hq39 => ?_)
        obtain ⟨rfl, rfl, rfl⟩ := hq39
        refine zn_con hB zd228_42 rfl ?_
        refine zn_iv2 hB (zh225 (cm := cm) (said := said)) zd228_43 zxt225 rfl ⟨rfl, rfl, rfl, by omega, by omega, by omega, by omega, by omega, by omega⟩ (fun r43 F43 G43 hq43 => ?_)
        obtain ⟨rfl, rfl, rfl⟩ := hq43
        refine zn_ald hB zd228_46 rfl rfl rfl ?_
        refine zn_ald hB zd228_47 rfl rfl rfl ?_
        refine zn_getf hB zd228_48 rfl rfl (fun q48 r48 => ?_)
        refine zn_con hB zd228_51 rfl ?_
        refine zn_isub hB zd228_52 (by omega) (by omega) ?_
        refine zn_putf hB zd228_53 rfl rfl (fun h => by cases h) rfl ?_
        refine zn_goto hB zd228_56 rfl ?_
        obtain ⟨k1, k2⟩ := zp_cs_st hs (by omega) t4 ⟨t1, t2⟩ g.1 (D' := D) (said' := said) (cm' := 0) (wt' := 0) (d' := 0)
        exact ih _ _ _ _ _ k1 g.2 (by omega) (fun D' said' cm' wt' d' e1 e2 => fin D' said' cm' wt' d' ((zp_cs_st hs (by omega) t4 ⟨t1, t2⟩ g.1).2 e1) e2)
      refine zn_ald hB zd228_0 rfl rfl rfl ?_
      refine zn_iv0 hB (zh229 (pl := pl) (wt := wt) (w := w)) zd228_1 zxt229 rfl ⟨rfl, rfl, rfl, by omega, by omega, hw⟩ (fun r1 F1 G1 hq1 => ?_)
      obtain ⟨rfl, rfl, rfl⟩ := hq1
      refine zn_con hB zd228_4 rfl ?_
      refine zn_clt hB zd228_5 rfl (fun h5 => ?_) (fun h5 => ?_)
      · refine zn_ild hB zd228_17 rfl rfl ?_
        refine zn_zeq hB zd228_18 rfl (fun h18 => ?_) (fun h18 => ?_)
        · refine fin _ _ _ _ _ (zp_cs_rf hs) (fun ha => ?_)
          by_cases e : wt = 0
          · exact Or.inl e
          · have := zp_t_ne (w := w) e
            exact Or.inr (by omega)
        · refine zn_ald hB zd228_21 rfl rfl rfl ?_
          refine zn_iv0 hB (zh229 (pl := pl) (wt := wt) (w := w)) zd228_22 zxt229 rfl ⟨rfl, rfl, rfl, by omega, by omega, hw⟩ (fun r22 F22 G22 hq22 => ?_)
          obtain ⟨rfl, rfl, rfl⟩ := hq22
          refine zn_con hB zd228_25 rfl ?_
          refine zn_ceq hB zd228_26 rfl (fun h26 => ?_) (fun h26 => ?_)
          · exact body (by omega) (by omega)
          · refine zn_ald hB zd228_29 rfl rfl rfl ?_
            refine zn_iv0 hB (zh229 (pl := pl) (wt := wt) (w := w)) zd228_30 zxt229 rfl ⟨rfl, rfl, rfl, by omega, by omega, hw⟩ (fun r30 F30 G30 hq30 => ?_)
            obtain ⟨rfl, rfl, rfl⟩ := hq30
            refine zn_con hB zd228_33 rfl ?_
            refine zn_cne hB zd228_34 rfl (fun h34 => ?_) (fun h34 => ?_)
            · refine fin _ _ _ _ _ (zp_cs_rf hs) (fun ha => ?_)
              by_cases e : wt = 0
              · exact Or.inl e
              · have := zp_t_ne (w := w) e
                exact Or.inr (by omega)
            · exact body (by omega) (by omega)
      · refine zn_ald hB zd228_8 rfl rfl rfl ?_
        refine zn_iv0 hB (zh229 (pl := pl) (wt := wt) (w := w)) zd228_9 zxt229 rfl ⟨rfl, rfl, rfl, by omega, by omega, hw⟩ (fun r9 F9 G9 hq9 => ?_)
        obtain ⟨rfl, rfl, rfl⟩ := hq9
        refine zn_con hB zd228_12 rfl ?_
        refine zn_cle hB zd228_14 rfl (fun h14 => ?_) (fun h14 => ?_)
        · exact body (by omega) (by omega)
        · refine zn_ild hB zd228_17 rfl rfl ?_
          refine zn_zeq hB zd228_18 rfl (fun h18 => ?_) (fun h18 => ?_)
          · refine fin _ _ _ _ _ (zp_cs_rf hs) (fun ha => ?_)
            by_cases e : wt = 0
            · exact Or.inl e
            · have := zp_t_ne (w := w) e
              exact Or.inr (by omega)
          · refine zn_ald hB zd228_21 rfl rfl rfl ?_
            refine zn_iv0 hB (zh229 (pl := pl) (wt := wt) (w := w)) zd228_22 zxt229 rfl ⟨rfl, rfl, rfl, by omega, by omega, hw⟩ (fun r22 F22 G22 hq22 => ?_)
            obtain ⟨rfl, rfl, rfl⟩ := hq22
            refine zn_con hB zd228_25 rfl ?_
            refine zn_ceq hB zd228_26 rfl (fun h26 => ?_) (fun h26 => ?_)
            · exact body (by omega) (by omega)
            · refine zn_ald hB zd228_29 rfl rfl rfl ?_
              refine zn_iv0 hB (zh229 (pl := pl) (wt := wt) (w := w)) zd228_30 zxt229 rfl ⟨rfl, rfl, rfl, by omega, by omega, hw⟩ (fun r30 F30 G30 hq30 => ?_)
              obtain ⟨rfl, rfl, rfl⟩ := hq30
              refine zn_con hB zd228_33 rfl ?_
              refine zn_cne hB zd228_34 rfl (fun h34 => ?_) (fun h34 => ?_)
              · refine fin _ _ _ _ _ (zp_cs_rf hs) (fun ha => ?_)
                by_cases e : wt = 0
                · exact Or.inl e
                · have := zp_t_ne (w := w) e
                  exact Or.inr (by omega)
              · exact body (by omega) (by omega)
  refine key (wt.toNat + 1) D said cm wt d hs hd (by have := hs.1.2.1; omega) (fun D' said' cm' wt' d' e1 e2 => ?_)
  exact hvret _ _ _ _ zd228_59 trivial ⟨rfl, D', said', cm', wt', d', rfl, rfl, e1, e2⟩
theorem zd221_0 : decode zxm221.2.1 0 = .ok (.aload_n 0, 1) := by decide +kernel
theorem zd221_1 : decode zxm221.2.1 1 = .ok (.invokevirtual 182, 3) := by decide +kernel
theorem zd221_4 : decode zxm221.2.1 4 = .ok (.bipush 91, 2) := by decide +kernel
theorem zd221_6 : decode zxm221.2.1 6 = .ok (.if_icmp .ne 14, 3) := by decide +kernel
theorem zd221_9 : decode zxm221.2.1 9 = .ok (.aload_n 0, 1) := by decide +kernel
theorem zd221_10 : decode zxm221.2.1 10 = .ok (.bipush 14, 2) := by decide +kernel
theorem zd221_12 : decode zxm221.2.1 12 = .ok (.invokevirtual 216, 3) := by decide +kernel
theorem zd221_15 : decode zxm221.2.1 15 = .ok (.ifCond .ne (-15), 3) := by decide +kernel
theorem zd221_18 : decode zxm221.2.1 18 = .ok (.iconst 0, 1) := by decide +kernel
theorem zd221_19 : decode zxm221.2.1 19 = .ok (.ireturn, 1) := by decide +kernel
theorem zd221_20 : decode zxm221.2.1 20 = .ok (.aload_n 0, 1) := by decide +kernel
theorem zd221_21 : decode zxm221.2.1 21 = .ok (.invokevirtual 195, 3) := by decide +kernel
theorem zd221_24 : decode zxm221.2.1 24 = .ok (.ifCond .eq 23, 3) := by decide +kernel
theorem zd221_27 : decode zxm221.2.1 27 = .ok (.aload_n 0, 1) := by decide +kernel
theorem zd221_28 : decode zxm221.2.1 28 = .ok (.invokevirtual 219, 3) := by decide +kernel
theorem zd221_31 : decode zxm221.2.1 31 = .ok (.ifCond .ne 5, 3) := by decide +kernel
theorem zd221_34 : decode zxm221.2.1 34 = .ok (.iconst 0, 1) := by decide +kernel
theorem zd221_35 : decode zxm221.2.1 35 = .ok (.ireturn, 1) := by decide +kernel
theorem zd221_36 : decode zxm221.2.1 36 = .ok (.aload_n 0, 1) := by decide +kernel
theorem zd221_37 : decode zxm221.2.1 37 = .ok (.iconst 0, 1) := by decide +kernel
theorem zd221_38 : decode zxm221.2.1 38 = .ok (.aload_n 0, 1) := by decide +kernel
theorem zd221_39 : decode zxm221.2.1 39 = .ok (.getfield 192, 3) := by decide +kernel
theorem zd221_42 : decode zxm221.2.1 42 = .ok (.invokevirtual 212, 3) := by decide +kernel
theorem zd221_45 : decode zxm221.2.1 45 = .ok (.iconst 1, 1) := by decide +kernel
theorem zd221_46 : decode zxm221.2.1 46 = .ok (.ireturn, 1) := by decide +kernel
theorem zd221_47 : decode zxm221.2.1 47 = .ok (.aload_n 0, 1) := by decide +kernel
theorem zd221_48 : decode zxm221.2.1 48 = .ok (.invokevirtual 182, 3) := by decide +kernel
theorem zd221_51 : decode zxm221.2.1 51 = .ok (.invokestatic 222, 3) := by decide +kernel
theorem zd221_54 : decode zxm221.2.1 54 = .ok (.istore_n 1, 1) := by decide +kernel
theorem zd221_55 : decode zxm221.2.1 55 = .ok (.iload_n 1, 1) := by decide +kernel
theorem zd221_56 : decode zxm221.2.1 56 = .ok (.iconst (-1), 1) := by decide +kernel
theorem zd221_57 : decode zxm221.2.1 57 = .ok (.if_icmp .ne 13, 3) := by decide +kernel
theorem zd221_60 : decode zxm221.2.1 60 = .ok (.aload_n 0, 1) := by decide +kernel
theorem zd221_61 : decode zxm221.2.1 61 = .ok (.iconst 1, 1) := by decide +kernel
theorem zd221_62 : decode zxm221.2.1 62 = .ok (.aload_n 0, 1) := by decide +kernel
theorem zd221_63 : decode zxm221.2.1 63 = .ok (.getfield 176, 3) := by decide +kernel
theorem zd221_66 : decode zxm221.2.1 66 = .ok (.invokevirtual 189, 3) := by decide +kernel
theorem zd221_69 : decode zxm221.2.1 69 = .ok (.ireturn, 1) := by decide +kernel
theorem zd221_70 : decode zxm221.2.1 70 = .ok (.aload_n 0, 1) := by decide +kernel
theorem zd221_71 : decode zxm221.2.1 71 = .ok (.iconst 1, 1) := by decide +kernel
theorem zd221_72 : decode zxm221.2.1 72 = .ok (.iload_n 1, 1) := by decide +kernel
theorem zd221_73 : decode zxm221.2.1 73 = .ok (.invokevirtual 212, 3) := by decide +kernel
theorem zd221_76 : decode zxm221.2.1 76 = .ok (.aload_n 0, 1) := by decide +kernel
theorem zd221_77 : decode zxm221.2.1 77 = .ok (.aload_n 0, 1) := by decide +kernel
theorem zd221_78 : decode zxm221.2.1 78 = .ok (.getfield 176, 3) := by decide +kernel
theorem zd221_81 : decode zxm221.2.1 81 = .ok (.iconst 1, 1) := by decide +kernel
theorem zd221_82 : decode zxm221.2.1 82 = .ok (.iadd, 1) := by decide +kernel
theorem zd221_83 : decode zxm221.2.1 83 = .ok (.putfield 176, 3) := by decide +kernel
theorem zd221_86 : decode zxm221.2.1 86 = .ok (.iconst 1, 1) := by decide +kernel
theorem zd221_87 : decode zxm221.2.1 87 = .ok (.ireturn, 1) := by decide +kernel
theorem zh221  : zn_OK z_TB z_cl z_KX zyM zxm221 (3, 180) (fun va F G => va = [.inr 0] ∧ F = pl :: len :: fl :: op :: cm :: wt :: nb :: Fr ∧ G = tape :: said :: w :: Gr ∧ zp_s e0 D said w pl len cm wt d) (fun va F G r F' G' => (r = some 0 ∧ zp_no len tape Fr Gr F' G') ∨ (r = some 1 ∧ ∃ D' said' w' pl' op' cm' wt' nb', F' = pl' :: len :: fl :: op' :: cm' :: wt' :: nb' :: Fr ∧ G' = tape :: said' :: w' :: Gr ∧ zp_f D w pl cm wt D' w' pl' cm' wt' ∧ pl < pl' ∧ zp_s e0 D' said' w' pl' len cm' wt' (d + 1) ∧ cm' + zp_pn w' wt' - cm - zp_pn w wt ≤ pl' - pl)) := zn_meth (K := zkM) (FT := z_FT) (MT := z_MT) (n := 1) zxp221 (z_ks13 _ (fun _ h => List.mem_cons_of_mem _ h) _ _ _ _ (fun j r h _ => by cases h)) (fun _ _ => zs_KX_p) (by decide +kernel) (fun va F G h => by obtain ⟨rfl, _⟩ := h; rfl) rfl fun good va F G hB hret hvret hP => by
  obtain ⟨rfl, rfl, rfl, hs⟩ := hP
  have key : ∀ (n : Nat) (w : Int → Int) (pl op wt : Int), zp_s e0 D said w pl len cm wt d → len - pl < n → (∀ D' said' w' pl' op' cm' wt' nb', zp_f D w pl cm wt D' w' pl' cm' wt' → pl < pl' → zp_s e0 D' said' w' pl' len cm' wt' (d + 1) → cm' + zp_pn w' wt' - cm - zp_pn w wt ≤ pl' - pl → ∀ pc L, decode zxm221.2.1 pc = .ok (.ireturn, 1) → good pc L [.inl 1] (pl' :: len :: fl :: op' :: cm' :: wt' :: nb' :: Fr) (tape :: said' :: w' :: Gr)) → good 0 [.inr 0, .inr 1000] [] (pl :: len :: fl :: op :: cm :: wt :: nb :: Fr) (tape :: said :: w :: Gr) := by
    intro n
    induction n with
    | zero =>
      intro w pl op wt hs hn fin
      have := hs.1
      exfalso; omega
    | succ n ih =>
      intro w pl op wt hs hn fin
      obtain ⟨a1, a2, a3, a4, a5, a6, a7, a8⟩ := hs.1
      have hpn := zp_pn_nn (w := w) (a := wt)
      refine zn_ald hB zd221_0 rfl rfl rfl ?_
      refine zn_iv0 hB (zh217 (pl := pl) (len := len) (tape := tape)) zd221_1 zxt217 rfl ⟨rfl, rfl, rfl, by omega, by omega⟩ (fun r1 F1 G1 hq1 => ?_)
      obtain ⟨rfl, rfl, rfl⟩ := hq1
      refine zn_con hB zd221_4 rfl ?_
      refine zn_cne hB zd221_6 rfl (fun h6 => ?_) (fun h6 => ?_)
      · refine zn_ald hB zd221_20 rfl rfl rfl ?_
        refine zn_iv0 hB (zh223 (pl := pl) (len := len) (tape := tape)) zd221_21 zxt223 rfl ⟨rfl, rfl, rfl, by omega, by omega⟩ (fun r21 F21 G21 hq21 => ?_)
        obtain ⟨rfl, rfl, hd⟩ := hq21
        rcases hd with ⟨rfl, g1, g2⟩ | ⟨rfl, g1⟩
        · refine zn_zeq hB zd221_24 rfl (fun h24 => ?_) (fun h24 => ?_)
          · exfalso; omega
          · refine zn_ald hB zd221_27 rfl rfl rfl ?_
            refine zn_iv0 hB (zh224 (pl := pl) (len := len) (tape := tape)) zd221_28 zxt224 rfl ⟨rfl, rfl, rfl, by omega, by omega, by omega, g1, g2⟩ (fun r28 F28 G28 hq28 => ?_)
            rcases hq28 with ⟨rfl, p0, f0, n0, rfl, rfl⟩ | ⟨rfl, p1, n1, rfl, rfl, e1, e2, e3, e4⟩
            · refine zn_zne hB zd221_31 rfl (fun h31 => ?_) (fun h31 => ?_)
              · exfalso; omega
              · refine zn_con hB zd221_34 rfl ?_
                exact hret _ _ _ _ _ zd221_35 (by constructor <;> decide) (Or.inl ⟨rfl, _, _, _, _, _, _, _, _, rfl, rfl⟩)
            · refine zn_zne hB zd221_31 rfl (fun h31 => ?_) (fun h31 => ?_)
              · refine zn_ald hB zd221_36 rfl rfl rfl ?_
                refine zn_con hB zd221_37 rfl ?_
                refine zn_ald hB zd221_38 rfl rfl rfl ?_
                refine zn_getf hB zd221_39 rfl rfl (fun q39 r39 => ?_)
                refine zn_iv2 hB (zh225 (cm := cm) (said := said)) zd221_42 zxt225 rfl ⟨rfl, rfl, rfl, by omega, by omega, by omega, by omega, by omega, by omega⟩ (fun r42 F42 G42 hq42 => ?_)
                obtain ⟨rfl, rfl, rfl⟩ := hq42
                refine zn_con hB zd221_45 rfl ?_
                exact fin _ _ _ _ _ _ _ _ (zp_f_note (v := d + 1) (by omega)) e1 (zp_note (pl2 := p1) (op := 0) (v := n1) (d' := d + 1) hs (by omega) (by omega) (by omega) (by omega) (Or.inl (by omega))) (by omega) _ _ zd221_46
              · exfalso; omega
        · refine zn_zeq hB zd221_24 rfl (fun h24 => ?_) (fun h24 => ?_)
          · refine zn_ald hB zd221_47 rfl rfl rfl ?_
            refine zn_iv0 hB (zh217 (pl := pl) (len := len) (tape := tape)) zd221_48 zxt217 rfl ⟨rfl, rfl, rfl, by omega, by omega⟩ (fun r48 F48 G48 hq48 => ?_)
            obtain ⟨rfl, rfl, rfl⟩ := hq48
            refine zn_it1 hB zh226 zd221_51 zxt226 rfl rfl (fun r51 F51 G51 hq51 => ?_)
            obtain ⟨rfl, rfl, x, rfl, x1, x2, x3⟩ := hq51
            refine zn_ist hB zd221_54 rfl rfl rfl ?_
            refine zn_ild hB zd221_55 rfl rfl ?_
            refine zn_con hB zd221_56 rfl ?_
            refine zn_cne hB zd221_57 rfl (fun h57 => ?_) (fun h57 => ?_)
            · have hlt := zp_h_lt (tape := tape) (pl := pl) (len := len) (by omega)
              refine zn_ald hB zd221_70 rfl rfl rfl ?_
              refine zn_con hB zd221_71 rfl ?_
              refine zn_ild hB zd221_72 rfl rfl ?_
              refine zn_iv2 hB (zh225 (cm := cm) (said := said)) zd221_73 zxt225 rfl ⟨rfl, rfl, rfl, by omega, by omega, by omega, by omega, by omega, by omega⟩ (fun r73 F73 G73 hq73 => ?_)
              obtain ⟨rfl, rfl, rfl⟩ := hq73
              refine zn_ald hB zd221_76 rfl rfl rfl ?_
              refine zn_ald hB zd221_77 rfl rfl rfl ?_
              refine zn_getf hB zd221_78 rfl rfl (fun q78 r78 => ?_)
              refine zn_con hB zd221_81 rfl ?_
              refine zn_iadd hB zd221_82 (by omega) (by omega) ?_
              refine zn_putf hB zd221_83 rfl rfl (fun h => by cases h) rfl ?_
              refine zn_con hB zd221_86 rfl ?_
              exact fin _ _ _ _ _ _ _ _ (zp_f_note (pl' := pl + 1) (v := d + 1) (by omega)) (by omega) (zp_note (pl2 := pl + 1) (op := 1) (v := x) (d' := d + 1) hs (by omega) (by omega) (by omega) (by omega) (Or.inr (Or.inl (by omega)))) (by omega) _ _ zd221_87
            · refine zn_ald hB zd221_60 rfl rfl rfl ?_
              refine zn_con hB zd221_61 rfl ?_
              refine zn_ald hB zd221_62 rfl rfl rfl ?_
              refine zn_getf hB zd221_63 rfl rfl (fun q63 r63 => ?_)
              refine zn_iv2 hB zh219 zd221_66 zxt219 rfl ⟨rfl, rfl⟩ (fun r66 F66 G66 hq66 => ?_)
              obtain ⟨rfl, fl1, rfl, rfl⟩ := hq66
              exact hret _ _ _ _ _ zd221_69 (by constructor <;> decide) (Or.inl ⟨rfl, _, _, _, _, _, _, _, _, rfl, rfl⟩)
          · exfalso; omega
      · have hlt := zp_h_lt (tape := tape) (pl := pl) (len := len) (by omega)
        refine zn_ald hB zd221_9 rfl rfl rfl ?_
        refine zn_con hB zd221_10 rfl ?_
        refine zn_iv1 hB (zh222 (pl := pl) (wt := wt) (w := w)) zd221_12 zxt222 rfl ⟨rfl, rfl, rfl, by omega, by omega, by omega, by omega, by omega, by omega⟩ (fun r12 F12 G12 hq12 => ?_)
        rcases hq12 with ⟨rfl, f0, rfl, rfl⟩ | ⟨rfl, op1, rfl, rfl⟩
        · refine zn_zne hB zd221_15 rfl (fun h15 => ?_) (fun h15 => ?_)
          · exfalso; omega
          · refine zn_con hB zd221_18 rfl ?_
            exact hret _ _ _ _ _ zd221_19 (by constructor <;> decide) (Or.inl ⟨rfl, _, _, _, _, _, _, _, _, rfl, rfl⟩)
        · refine zn_zne hB zd221_15 rfl (fun h15 => ?_) (fun h15 => ?_)
          · exact ih _ _ _ _ (zp_push (pl2 := pl + 1) hs (by omega) (by rw [if_neg (by omega)]; omega)) (by omega) (fun D' said' w' pl' op' cm' wt' nb' e1 e2 e3 e4 => fin D' said' w' pl' op' cm' wt' nb' (zp_f_open (by omega) e1) (by omega) e3 (by rw [zp_pn_s a2, zp_pn_up (Int.le_refl _), zn_up_s, if_neg (by omega)] at e4; omega))
          · exfalso; omega
  refine key ((len - pl).toNat + 1) w pl op wt hs (by omega) (fun D' said' w' pl' op' cm' wt' nb' e1 e2 e3 e4 pc L hd => ?_)
  exact hret _ _ _ _ _ hd (by constructor <;> decide) (Or.inr ⟨rfl, D', said', w', pl', op', cm', wt', nb', rfl, rfl, e1, e2, e3, e4⟩)
end ZREAD2
