/-! The reading of laws: conditions. -/
theorem zp_we {e0 : Nat} {D said w : Int → Int} {pl len cm wt d : Int} (h : zp_s (e0 + 1) D said w pl len cm wt d) : zp_s e0 D said w pl len cm wt d := by
  obtain ⟨⟨a1, a2, a3, a4, a5, a6, a7, a8⟩, h9, h10⟩ := h
  exact ⟨⟨a1, a2, a3, a4, a5, by omega, a7, a8⟩, h9, h10⟩
theorem zp_on1 {e0 : Nat} {D said w : Int → Int} {pl len cm wt d : Int} (h : zp_s e0 D said w pl len cm wt d) (h1 : pl < len) : zp_s (e0 + 1) D said w (pl + 1) len cm wt d := by
  obtain ⟨⟨a1, a2, a3, a4, a5, a6, a7, a8⟩, h9, h10⟩ := h
  exact ⟨⟨a1, a2, by omega, by omega, a5, by omega, a7, a8⟩, h9, h10⟩
theorem zp_low0_cg {w w' : Int → Int} {wt : Int} (h : zp_low0 w wt) (h0 : 0 ≤ wt) (k : ∀ j, j < wt → w' j = w j) : zp_low0 w' wt := by
  rcases h with h | h
  · exact Or.inl h
  · refine Or.inr ?_
    rw [k (wt - 1) (by omega)]
    exact h
/-- what waits while a condition is read -/
def zp_cd (w : Int → Int) (wt : Int) : Prop := 1 ≤ wt ∧ w 0 / 1048576 = 13 ∧ ∀ j, 0 ≤ j → j < wt → 10 ≤ w j / 1048576
theorem zp_cd_low {w : Int → Int} {wt : Int} (h : zp_cd w wt) : zp_low0 w wt := by
  refine Or.inr fun q => ?_
  have := h.2.2 (wt - 1) (by have := h.1; omega) (by omega)
  omega
theorem zp_cd_cut {w w' : Int → Int} {wt wt' : Int} (h : zp_cd w wt) (h0 : 0 ≤ wt') (h1 : wt' ≤ wt) (hk : ∀ j, j < wt' → w' j = w j) (hp : ∀ i, wt' ≤ i → i < wt → w i / 1048576 ≠ 13) : zp_cd w' wt' := by
  have h2 : 1 ≤ wt' := by
    rcases Int.lt_or_le 0 wt' with q | q
    · omega
    · exact absurd h.2.1 (hp 0 q (by have := h.1; omega))
  exact ⟨h2, by rw [hk 0 (by omega)]; exact h.2.1, fun j j1 j2 => by rw [hk j j2]; exact h.2.2 j j1 (by omega)⟩
theorem zp_cd_up {w : Int → Int} {wt x : Int} (h : zp_cd w wt) (hx : 10 ≤ x / 1048576) : zp_cd (zn_up w wt x) (wt + 1) := by
  have h1 := h.1
  refine ⟨by omega, by rw [zn_up_n (by omega)]; exact h.2.1, fun j j1 j2 => ?_⟩
  by_cases e : j = wt
  · subst e; rw [zn_up_s]; exact hx
  · rw [zn_up_n e]; exact h.2.2 j j1 (by omega)
theorem zp_l_st {e0 : Nat} {D w : Int → Int} {pl len cm wt d : Int} (h0 : 0 < wt) (hx : w (wt - 1) / 1048576 = 11 ∨ w (wt - 1) / 1048576 = 12) :
    ∀ said' wt', zp_l e0 D w pl len cm (wt - 1) d said' wt' → zp_l e0 D w pl len cm wt d said' wt' := by
  intro said' wt' ⟨a1, a2, a3⟩
  refine ⟨a1, by omega, fun i i1 i2 => ?_⟩
  by_cases e : i = wt - 1
  · rw [e]; exact hx
  · exact a3 i i1 (by omega)
section ZREAD4
variable {e0 : Nat} {pl len fl op cm wt nb d : Int} {tape said w D : Int → Int} {Fr : List Int} {Gr : List (Int → Int)}
theorem zd233_0 : decode zxm233.2.1 0 = .ok (.aload_n 0, 1) := by decide +kernel
theorem zd233_1 : decode zxm233.2.1 1 = .ok (.invokevirtual 209, 3) := by decide +kernel
theorem zd233_4 : decode zxm233.2.1 4 = .ok (.bipush 10, 2) := by decide +kernel
theorem zd233_6 : decode zxm233.2.1 6 = .ok (.if_icmp .ne 33, 3) := by decide +kernel
theorem zd233_9 : decode zxm233.2.1 9 = .ok (.aload_n 0, 1) := by decide +kernel
theorem zd233_10 : decode zxm233.2.1 10 = .ok (.bipush 10, 2) := by decide +kernel
theorem zd233_12 : decode zxm233.2.1 12 = .ok (.iconst 0, 1) := by decide +kernel
theorem zd233_13 : decode zxm233.2.1 13 = .ok (.invokevirtual 212, 3) := by decide +kernel
theorem zd233_16 : decode zxm233.2.1 16 = .ok (.aload_n 0, 1) := by decide +kernel
theorem zd233_17 : decode zxm233.2.1 17 = .ok (.aload_n 0, 1) := by decide +kernel
theorem zd233_18 : decode zxm233.2.1 18 = .ok (.getfield 206, 3) := by decide +kernel
theorem zd233_21 : decode zxm233.2.1 21 = .ok (.iconst 1, 1) := by decide +kernel
theorem zd233_22 : decode zxm233.2.1 22 = .ok (.isub, 1) := by decide +kernel
theorem zd233_23 : decode zxm233.2.1 23 = .ok (.putfield 206, 3) := by decide +kernel
theorem zd233_26 : decode zxm233.2.1 26 = .ok (.aload_n 0, 1) := by decide +kernel
theorem zd233_27 : decode zxm233.2.1 27 = .ok (.aload_n 0, 1) := by decide +kernel
theorem zd233_28 : decode zxm233.2.1 28 = .ok (.getfield 203, 3) := by decide +kernel
theorem zd233_31 : decode zxm233.2.1 31 = .ok (.iconst 1, 1) := by decide +kernel
theorem zd233_32 : decode zxm233.2.1 32 = .ok (.isub, 1) := by decide +kernel
theorem zd233_33 : decode zxm233.2.1 33 = .ok (.putfield 203, 3) := by decide +kernel
theorem zd233_36 : decode zxm233.2.1 36 = .ok (.goto (-36), 3) := by decide +kernel
theorem zd233_39 : decode zxm233.2.1 39 = .ok (.return_, 1) := by decide +kernel
theorem zh233  : zn_OK z_TB z_cl z_KX zyM zxm233 (1, 60) (fun va F G => va = [.inr 0] ∧ F = pl :: len :: fl :: op :: cm :: wt :: Fr ∧ G = tape :: said :: w :: Gr ∧ zp_s e0 D said w pl len cm wt d ∧ 1 ≤ d) (fun va F G r F' G' => r = none ∧ ∃ D' said' op' cm' wt', F' = pl :: len :: fl :: op' :: cm' :: wt' :: Fr ∧ G' = tape :: said' :: w :: Gr ∧ zp_e e0 D w pl len cm wt d D' said' cm' wt') := zn_meth (K := zkM) (FT := z_FT) (MT := z_MT) (n := 1) zxp233 (z_ks13 _ (fun _ h => List.mem_cons_of_mem _ h) _ _ _ _ (fun j r h _ => by cases h)) (fun _ _ => zs_KX_p) (by decide +kernel) (fun va F G h => by obtain ⟨rfl, _⟩ := h; rfl) rfl fun good va F G hB hret hvret hP => by
  obtain ⟨rfl, rfl, rfl, hs, hd⟩ := hP
  have key : ∀ (n : Nat) (D said : Int → Int) (op cm wt : Int), zp_s e0 D said w pl len cm wt d → wt < n → (∀ D' said' op' cm' wt', zp_e e0 D w pl len cm wt d D' said' cm' wt' → good 39 [.inr 0] [] (pl :: len :: fl :: op' :: cm' :: wt' :: Fr) (tape :: said' :: w :: Gr)) → good 0 [.inr 0] [] (pl :: len :: fl :: op :: cm :: wt :: Fr) (tape :: said :: w :: Gr) := by
    intro n
    induction n with
    | zero => exact fun D said op cm wt hs hn => absurd hs.1.2.1 (by omega)
    | succ n ih =>
      intro D said op cm wt hs hn fin
      obtain ⟨a1, a2, a3, a4, a5, a6, a7, a8⟩ := hs.1
      have hw : 0 < wt → 0 ≤ w (wt - 1) := fun h => (hs.2.2 (wt - 1) (by omega) (by omega)).1
      have hpn := zp_pn_nn (w := w) (a := wt)
      refine zn_ald hB zd233_0 rfl rfl rfl ?_
      refine zn_iv0 hB (zh229 (pl := pl) (wt := wt) (w := w)) zd233_1 zxt229 rfl ⟨rfl, rfl, rfl, by omega, by omega, hw⟩ (fun r1 F1 G1 hq1 => ?_)
      obtain ⟨rfl, rfl, rfl⟩ := hq1
      refine zn_con hB zd233_4 rfl ?_
      refine zn_cne hB zd233_6 rfl (fun h6 => ?_) (fun h6 => ?_)
      · exact fin _ _ _ _ _ (zp_e_rf hs)
      · obtain ⟨t3, t4⟩ := zp_t_pos (w := w) (wt := wt) (by omega)
        have g := zp_e_st hs (by omega) (by omega) hd
        refine zn_ald hB zd233_9 rfl rfl rfl ?_
        refine zn_con hB zd233_10 rfl ?_
        refine zn_con hB zd233_12 rfl ?_
        refine zn_iv2 hB (zh225 (cm := cm) (said := said)) zd233_13 zxt225 rfl ⟨rfl, rfl, rfl, by omega, by omega, by omega, by omega, by omega, by omega⟩ (fun r13 F13 G13 hq13 => ?_)
        obtain ⟨rfl, rfl, rfl⟩ := hq13
        refine zn_ald hB zd233_16 rfl rfl rfl ?_
        refine zn_ald hB zd233_17 rfl rfl rfl ?_
        refine zn_getf hB zd233_18 rfl rfl (fun q18 r18 => ?_)
        refine zn_con hB zd233_21 rfl ?_
        refine zn_isub hB zd233_22 (by omega) (by omega) ?_
        refine zn_putf hB zd233_23 rfl rfl (fun h => by cases h) rfl ?_
        refine zn_ald hB zd233_26 rfl rfl rfl ?_
        refine zn_ald hB zd233_27 rfl rfl rfl ?_
        refine zn_getf hB zd233_28 rfl rfl (fun q28 r28 => ?_)
        refine zn_con hB zd233_31 rfl ?_
        refine zn_any hB zd233_32 rfl (fun v32 q32 r32 => ?_)
        refine zn_putf hB zd233_33 rfl rfl (fun h => by cases h) rfl ?_
        refine zn_goto hB zd233_36 rfl ?_
        exact ih _ _ _ _ _ g.1 (by omega) (fun D' said' op' cm' wt' e1 => fin D' said' op' cm' wt' (g.2 D' said' cm' wt' e1))
  refine key (wt.toNat + 1) D said op cm wt hs (by have := hs.1.2.1; omega) (fun D' said' op' cm' wt' e1 => ?_)
  exact hvret _ _ _ _ zd233_39 trivial ⟨rfl, D', said', op', cm', wt', rfl, rfl, e1⟩
theorem zd234_0 : decode zxm234.2.1 0 = .ok (.aload_n 0, 1) := by decide +kernel
theorem zd234_1 : decode zxm234.2.1 1 = .ok (.invokevirtual 209, 3) := by decide +kernel
theorem zd234_4 : decode zxm234.2.1 4 = .ok (.bipush 11, 2) := by decide +kernel
theorem zd234_6 : decode zxm234.2.1 6 = .ok (.if_icmp .eq 16, 3) := by decide +kernel
theorem zd234_9 : decode zxm234.2.1 9 = .ok (.iload_n 1, 1) := by decide +kernel
theorem zd234_10 : decode zxm234.2.1 10 = .ok (.ifCond .eq 63, 3) := by decide +kernel
theorem zd234_13 : decode zxm234.2.1 13 = .ok (.aload_n 0, 1) := by decide +kernel
theorem zd234_14 : decode zxm234.2.1 14 = .ok (.invokevirtual 209, 3) := by decide +kernel
theorem zd234_17 : decode zxm234.2.1 17 = .ok (.bipush 12, 2) := by decide +kernel
theorem zd234_19 : decode zxm234.2.1 19 = .ok (.if_icmp .ne 54, 3) := by decide +kernel
theorem zd234_22 : decode zxm234.2.1 22 = .ok (.aload_n 0, 1) := by decide +kernel
theorem zd234_23 : decode zxm234.2.1 23 = .ok (.getfield 26, 3) := by decide +kernel
theorem zd234_26 : decode zxm234.2.1 26 = .ok (.aload_n 0, 1) := by decide +kernel
theorem zd234_27 : decode zxm234.2.1 27 = .ok (.getfield 206, 3) := by decide +kernel
theorem zd234_30 : decode zxm234.2.1 30 = .ok (.iconst 1, 1) := by decide +kernel
theorem zd234_31 : decode zxm234.2.1 31 = .ok (.isub, 1) := by decide +kernel
theorem zd234_32 : decode zxm234.2.1 32 = .ok (.iaload, 1) := by decide +kernel
theorem zd234_33 : decode zxm234.2.1 33 = .ok (.ldc 202, 2) := by decide +kernel
theorem zd234_35 : decode zxm234.2.1 35 = .ok (.irem, 1) := by decide +kernel
theorem zd234_36 : decode zxm234.2.1 36 = .ok (.istore_n 2, 1) := by decide +kernel
theorem zd234_37 : decode zxm234.2.1 37 = .ok (.aload_n 0, 1) := by decide +kernel
theorem zd234_38 : decode zxm234.2.1 38 = .ok (.getfield 23, 3) := by decide +kernel
theorem zd234_41 : decode zxm234.2.1 41 = .ok (.iload_n 2, 1) := by decide +kernel
theorem zd234_42 : decode zxm234.2.1 42 = .ok (.ldc 202, 2) := by decide +kernel
theorem zd234_44 : decode zxm234.2.1 44 = .ok (.aload_n 0, 1) := by decide +kernel
theorem zd234_45 : decode zxm234.2.1 45 = .ok (.getfield 23, 3) := by decide +kernel
theorem zd234_48 : decode zxm234.2.1 48 = .ok (.iload_n 2, 1) := by decide +kernel
theorem zd234_49 : decode zxm234.2.1 49 = .ok (.iaload, 1) := by decide +kernel
theorem zd234_50 : decode zxm234.2.1 50 = .ok (.ldc 202, 2) := by decide +kernel
theorem zd234_52 : decode zxm234.2.1 52 = .ok (.idiv, 1) := by decide +kernel
theorem zd234_53 : decode zxm234.2.1 53 = .ok (.imul, 1) := by decide +kernel
theorem zd234_54 : decode zxm234.2.1 54 = .ok (.aload_n 0, 1) := by decide +kernel
theorem zd234_55 : decode zxm234.2.1 55 = .ok (.getfield 199, 3) := by decide +kernel
theorem zd234_58 : decode zxm234.2.1 58 = .ok (.iadd, 1) := by decide +kernel
theorem zd234_59 : decode zxm234.2.1 59 = .ok (.iastore, 1) := by decide +kernel
theorem zd234_60 : decode zxm234.2.1 60 = .ok (.aload_n 0, 1) := by decide +kernel
theorem zd234_61 : decode zxm234.2.1 61 = .ok (.aload_n 0, 1) := by decide +kernel
theorem zd234_62 : decode zxm234.2.1 62 = .ok (.getfield 206, 3) := by decide +kernel
theorem zd234_65 : decode zxm234.2.1 65 = .ok (.iconst 1, 1) := by decide +kernel
theorem zd234_66 : decode zxm234.2.1 66 = .ok (.isub, 1) := by decide +kernel
theorem zd234_67 : decode zxm234.2.1 67 = .ok (.putfield 206, 3) := by decide +kernel
theorem zd234_70 : decode zxm234.2.1 70 = .ok (.goto (-70), 3) := by decide +kernel
theorem zd234_73 : decode zxm234.2.1 73 = .ok (.return_, 1) := by decide +kernel
theorem zh234 {al : Int} : zn_OK z_TB z_cl z_KX zyM zxm234 (1, 60) (fun va F G => va = [.inr 0, .inl al] ∧ F = pl :: len :: fl :: op :: cm :: wt :: Fr ∧ G = tape :: said :: w :: Gr ∧ zp_s e0 D said w pl len cm wt d ∧ d ≤ 1) (fun va F G r F' G' => r = none ∧ ∃ said' wt', F' = pl :: len :: fl :: op :: cm :: wt' :: Fr ∧ G' = tape :: said' :: w :: Gr ∧ zp_l e0 D w pl len cm wt d said' wt' ∧ (al ≠ 0 → wt' = 0 ∨ ¬ (w (wt' - 1) / 1048576 = 11 ∨ w (wt' - 1) / 1048576 = 12))) := zn_meth (K := zkM) (FT := z_FT) (MT := z_MT) (n := 2) zxp234 (z_ks13 _ (fun _ h => List.mem_cons_of_mem _ h) _ _ _ _ (fun j r h _ => by cases h)) (fun _ _ => zs_KX_p) (by decide +kernel) (fun va F G h => by obtain ⟨rfl, _⟩ := h; rfl) rfl fun good va F G hB hret hvret hP => by
  obtain ⟨rfl, rfl, rfl, hs, hd⟩ := hP
  have key : ∀ (n : Nat) (said : Int → Int) (wt : Int) (x : zNV), zp_s e0 D said w pl len cm wt d → wt < n → (∀ said' wt' x, zp_l e0 D w pl len cm wt d said' wt' → (al ≠ 0 → wt' = 0 ∨ ¬ (w (wt' - 1) / 1048576 = 11 ∨ w (wt' - 1) / 1048576 = 12)) → good 73 [.inr 0, .inl al, x] [] (pl :: len :: fl :: op :: cm :: wt' :: Fr) (tape :: said' :: w :: Gr)) → good 0 [.inr 0, .inl al, x] [] (pl :: len :: fl :: op :: cm :: wt :: Fr) (tape :: said :: w :: Gr) := by
    intro n
    induction n with
    | zero => exact fun said wt x hs hn => absurd hs.1.2.1 (by omega)
    | succ n ih =>
      intro said wt x hs hn fin
      obtain ⟨a1, a2, a3, a4, a5, a6, a7, a8⟩ := hs.1
      have hw : 0 < wt → 0 ≤ w (wt - 1) := fun h => (hs.2.2 (wt - 1) (by omega) (by omega)).1
      have hpn := zp_pn_nn (w := w) (a := wt)
      have body : zp_t w wt = 11 ∨ zp_t w wt = 12 → good 22 [.inr 0, .inl al, x] [] (pl :: len :: fl :: op :: cm :: wt :: Fr) (tape :: said :: w :: Gr) := by
        intro t1
        obtain ⟨t3, t4⟩ := zp_t_pos (w := w) (wt := wt) (by omega)
        obtain ⟨⟨g1, g2⟩, g3, g4, g5, g6⟩ := zp_land hs (by omega) (by omega) hd
        have hw1 := hw (by omega)
        refine zn_ald hB zd234_22 rfl rfl rfl ?_
        refine zn_getr hB zd234_23 rfl ?_
        refine zn_ald hB zd234_26 rfl rfl rfl ?_
        refine zn_getf hB zd234_27 rfl rfl (fun q27 r27 => ?_)
        refine zn_con hB zd234_30 rfl ?_
        refine zn_isub hB zd234_31 (by omega) (by omega) ?_
        refine zn_iald hB zd234_32 rfl rfl (by omega) (by omega) (fun q32 r32 => ?_)
        refine zn_con (n := 1048576) hB zd234_33 (by decide +kernel) ?_
        refine zn_irem hB zd234_35 (by omega) (by omega) ?_
        refine zn_ist hB zd234_36 rfl rfl rfl ?_
        refine zn_ald hB zd234_37 rfl rfl rfl ?_
        refine zn_getr hB zd234_38 rfl ?_
        refine zn_ild hB zd234_41 rfl rfl ?_
        refine zn_con (n := 1048576) hB zd234_42 (by decide +kernel) ?_
        refine zn_ald hB zd234_44 rfl rfl rfl ?_
        refine zn_getr hB zd234_45 rfl ?_
        refine zn_ild hB zd234_48 rfl rfl ?_
        refine zn_iald hB zd234_49 rfl rfl (by omega) (by omega) (fun q49 r49 => ?_)
        refine zn_con (n := 1048576) hB zd234_50 (by decide +kernel) ?_
        refine zn_idiv hB zd234_52 (by omega) (by omega) ?_
        refine zn_imul hB zd234_53 (by omega) (by omega) ?_
        refine zn_ald hB zd234_54 rfl rfl rfl ?_
        refine zn_getf hB zd234_55 rfl rfl (fun q55 r55 => ?_)
        refine zn_iadd hB zd234_58 (by omega) (by omega) ?_
        refine zn_iast hB zd234_59 rfl rfl (by omega) (by omega) ?_
        refine zn_ald hB zd234_60 rfl rfl rfl ?_
        refine zn_ald hB zd234_61 rfl rfl rfl ?_
        refine zn_getf hB zd234_62 rfl rfl (fun q62 r62 => ?_)
        refine zn_con hB zd234_65 rfl ?_
        refine zn_isub hB zd234_66 (by omega) (by omega) ?_
        refine zn_putf hB zd234_67 rfl rfl (fun h => by cases h) rfl ?_
        refine zn_goto hB zd234_70 rfl ?_
        exact ih _ _ _ g6 (by omega) (fun said' wt' x e1 e2 => fin said' wt' x (zp_l_st (by omega) (by omega) said' wt' e1) e2)
      refine zn_ald hB zd234_0 rfl rfl rfl ?_
      refine zn_iv0 hB (zh229 (pl := pl) (wt := wt) (w := w)) zd234_1 zxt229 rfl ⟨rfl, rfl, rfl, by omega, by omega, hw⟩ (fun r1 F1 G1 hq1 => ?_)
      obtain ⟨rfl, rfl, rfl⟩ := hq1
      refine zn_con hB zd234_4 rfl ?_
      refine zn_ceq hB zd234_6 rfl (fun h6 => ?_) (fun h6 => ?_)
      · exact body (by omega)
      · refine zn_ild hB zd234_9 rfl rfl ?_
        refine zn_zeq hB zd234_10 rfl (fun h10 => ?_) (fun h10 => ?_)
        · refine fin _ _ _ ⟨hs, Int.le_refl _, fun i h1 h2 => absurd h1 (by omega)⟩ (fun ha => ?_)
          by_cases e : wt = 0
          · exact Or.inl e
          · have := zp_t_ne (w := w) e
            exact Or.inr (by omega)
        · refine zn_ald hB zd234_13 rfl rfl rfl ?_
          refine zn_iv0 hB (zh229 (pl := pl) (wt := wt) (w := w)) zd234_14 zxt229 rfl ⟨rfl, rfl, rfl, by omega, by omega, hw⟩ (fun r14 F14 G14 hq14 => ?_)
          obtain ⟨rfl, rfl, rfl⟩ := hq14
          refine zn_con hB zd234_17 rfl ?_
          refine zn_cne hB zd234_19 rfl (fun h19 => ?_) (fun h19 => ?_)
          · refine fin _ _ _ ⟨hs, Int.le_refl _, fun i h1 h2 => absurd h1 (by omega)⟩ (fun ha => ?_)
            by_cases e : wt = 0
            · exact Or.inl e
            · have := zp_t_ne (w := w) e
              exact Or.inr (by omega)
          · exact body (by omega)
  refine key (wt.toNat + 1) said wt (.inr 1000) hs (by have := hs.1.2.1; omega) (fun said' wt' x e1 e2 => ?_)
  exact hvret _ _ _ _ zd234_73 trivial ⟨rfl, said', wt', rfl, rfl, e1, e2⟩
theorem zd235_0 : decode zxm235.2.1 0 = .ok (.aload_n 0, 1) := by decide +kernel
theorem zd235_1 : decode zxm235.2.1 1 = .ok (.getfield 26, 3) := by decide +kernel
theorem zd235_4 : decode zxm235.2.1 4 = .ok (.aload_n 0, 1) := by decide +kernel
theorem zd235_5 : decode zxm235.2.1 5 = .ok (.getfield 206, 3) := by decide +kernel
theorem zd235_8 : decode zxm235.2.1 8 = .ok (.ldc 202, 2) := by decide +kernel
theorem zd235_10 : decode zxm235.2.1 10 = .ok (.iload_n 1, 1) := by decide +kernel
theorem zd235_11 : decode zxm235.2.1 11 = .ok (.imul, 1) := by decide +kernel
theorem zd235_12 : decode zxm235.2.1 12 = .ok (.aload_n 0, 1) := by decide +kernel
theorem zd235_13 : decode zxm235.2.1 13 = .ok (.getfield 199, 3) := by decide +kernel
theorem zd235_16 : decode zxm235.2.1 16 = .ok (.iadd, 1) := by decide +kernel
theorem zd235_17 : decode zxm235.2.1 17 = .ok (.iastore, 1) := by decide +kernel
theorem zd235_18 : decode zxm235.2.1 18 = .ok (.aload_n 0, 1) := by decide +kernel
theorem zd235_19 : decode zxm235.2.1 19 = .ok (.aload_n 0, 1) := by decide +kernel
theorem zd235_20 : decode zxm235.2.1 20 = .ok (.getfield 206, 3) := by decide +kernel
theorem zd235_23 : decode zxm235.2.1 23 = .ok (.iconst 1, 1) := by decide +kernel
theorem zd235_24 : decode zxm235.2.1 24 = .ok (.iadd, 1) := by decide +kernel
theorem zd235_25 : decode zxm235.2.1 25 = .ok (.putfield 206, 3) := by decide +kernel
theorem zd235_28 : decode zxm235.2.1 28 = .ok (.aload_n 0, 1) := by decide +kernel
theorem zd235_29 : decode zxm235.2.1 29 = .ok (.iload_n 1, 1) := by decide +kernel
theorem zd235_30 : decode zxm235.2.1 30 = .ok (.iconst 0, 1) := by decide +kernel
theorem zd235_31 : decode zxm235.2.1 31 = .ok (.invokevirtual 212, 3) := by decide +kernel
theorem zd235_34 : decode zxm235.2.1 34 = .ok (.aload_n 0, 1) := by decide +kernel
theorem zd235_35 : decode zxm235.2.1 35 = .ok (.aload_n 0, 1) := by decide +kernel
theorem zd235_36 : decode zxm235.2.1 36 = .ok (.getfield 176, 3) := by decide +kernel
theorem zd235_39 : decode zxm235.2.1 39 = .ok (.iconst 1, 1) := by decide +kernel
theorem zd235_40 : decode zxm235.2.1 40 = .ok (.iadd, 1) := by decide +kernel
theorem zd235_41 : decode zxm235.2.1 41 = .ok (.putfield 176, 3) := by decide +kernel
theorem zd235_44 : decode zxm235.2.1 44 = .ok (.return_, 1) := by decide +kernel
theorem zh235 {o : Int} : zn_OK z_TB z_cl z_KX zyM zxm235 (1, 60) (fun va F G => va = [.inr 0, .inl o] ∧ F = pl :: len :: fl :: op :: cm :: wt :: Fr ∧ G = tape :: said :: w :: Gr ∧ 0 ≤ o ∧ o ≤ 14 ∧ 0 ≤ cm ∧ cm < 220 ∧ 0 ≤ wt ∧ wt < 220 ∧ 0 ≤ pl ∧ pl < 220) (fun va F G r F' G' => r = none ∧ F' = (pl + 1) :: len :: fl :: op :: (cm + 1) :: (wt + 1) :: Fr ∧ G' = tape :: zn_up said cm (1048576 * o + 0) :: zn_up w wt (1048576 * o + cm) :: Gr) := zn_meth (K := zkM) (FT := z_FT) (MT := z_MT) (n := 2) zxp235 (z_ks13 _ (fun _ h => List.mem_cons_of_mem _ h) _ _ _ _ (fun j r h _ => by cases h)) (fun _ _ => zs_KX_p) (by decide +kernel) (fun va F G h => by obtain ⟨rfl, _⟩ := h; rfl) rfl fun good va F G hB hret hvret hP => by
  obtain ⟨rfl, rfl, rfl, h0, h1, h2, h3, h4, h5, h6, h7⟩ := hP
  refine zn_ald hB zd235_0 rfl rfl rfl ?_
  refine zn_getr hB zd235_1 rfl ?_
  refine zn_ald hB zd235_4 rfl rfl rfl ?_
  refine zn_getf hB zd235_5 rfl rfl (fun q5 r5 => ?_)
  refine zn_con (n := 1048576) hB zd235_8 (by decide +kernel) ?_
  refine zn_ild hB zd235_10 rfl rfl ?_
  refine zn_imul hB zd235_11 (by omega) (by omega) ?_
  refine zn_ald hB zd235_12 rfl rfl rfl ?_
  refine zn_getf hB zd235_13 rfl rfl (fun q13 r13 => ?_)
  refine zn_iadd hB zd235_16 (by omega) (by omega) ?_
  refine zn_iast hB zd235_17 rfl rfl (by omega) (by omega) ?_
  refine zn_ald hB zd235_18 rfl rfl rfl ?_
  refine zn_ald hB zd235_19 rfl rfl rfl ?_
  refine zn_getf hB zd235_20 rfl rfl (fun q20 r20 => ?_)
  refine zn_con hB zd235_23 rfl ?_
  refine zn_iadd hB zd235_24 (by omega) (by omega) ?_
  refine zn_putf hB zd235_25 rfl rfl (fun h => by cases h) rfl ?_
  refine zn_ald hB zd235_28 rfl rfl rfl ?_
  refine zn_ild hB zd235_29 rfl rfl ?_
  refine zn_con hB zd235_30 rfl ?_
  refine zn_iv2 hB (zh225 (cm := cm) (said := said)) zd235_31 zxt225 rfl ⟨rfl, rfl, rfl, by omega, by omega, by omega, by omega, by omega, by omega⟩ (fun r31 F31 G31 hq31 => ?_)
  obtain ⟨rfl, rfl, rfl⟩ := hq31
  refine zn_ald hB zd235_34 rfl rfl rfl ?_
  refine zn_ald hB zd235_35 rfl rfl rfl ?_
  refine zn_getf hB zd235_36 rfl rfl (fun q36 r36 => ?_)
  refine zn_con hB zd235_39 rfl ?_
  refine zn_iadd hB zd235_40 (by omega) (by omega) ?_
  refine zn_putf hB zd235_41 rfl rfl (fun h => by cases h) rfl ?_
  exact hvret _ _ _ _ zd235_44 trivial ⟨rfl, rfl, rfl⟩
theorem zd232_0 : decode zxm232.2.1 0 = .ok (.aload_n 0, 1) := by decide +kernel
theorem zd232_1 : decode zxm232.2.1 1 = .ok (.invokevirtual 238, 3) := by decide +kernel
theorem zd232_4 : decode zxm232.2.1 4 = .ok (.ifCond .ne 5, 3) := by decide +kernel
theorem zd232_7 : decode zxm232.2.1 7 = .ok (.iconst 0, 1) := by decide +kernel
theorem zd232_8 : decode zxm232.2.1 8 = .ok (.ireturn, 1) := by decide +kernel
theorem zd232_9 : decode zxm232.2.1 9 = .ok (.aload_n 0, 1) := by decide +kernel
theorem zd232_10 : decode zxm232.2.1 10 = .ok (.invokevirtual 182, 3) := by decide +kernel
theorem zd232_13 : decode zxm232.2.1 13 = .ok (.bipush 60, 2) := by decide +kernel
theorem zd232_15 : decode zxm232.2.1 15 = .ok (.if_icmp .ne 8, 3) := by decide +kernel
theorem zd232_18 : decode zxm232.2.1 18 = .ok (.bipush 7, 2) := by decide +kernel
theorem zd232_20 : decode zxm232.2.1 20 = .ok (.goto 32, 3) := by decide +kernel
theorem zd232_23 : decode zxm232.2.1 23 = .ok (.aload_n 0, 1) := by decide +kernel
theorem zd232_24 : decode zxm232.2.1 24 = .ok (.invokevirtual 182, 3) := by decide +kernel
theorem zd232_27 : decode zxm232.2.1 27 = .ok (.bipush 62, 2) := by decide +kernel
theorem zd232_29 : decode zxm232.2.1 29 = .ok (.if_icmp .ne 8, 3) := by decide +kernel
theorem zd232_32 : decode zxm232.2.1 32 = .ok (.bipush 8, 2) := by decide +kernel
theorem zd232_34 : decode zxm232.2.1 34 = .ok (.goto 18, 3) := by decide +kernel
theorem zd232_37 : decode zxm232.2.1 37 = .ok (.aload_n 0, 1) := by decide +kernel
theorem zd232_38 : decode zxm232.2.1 38 = .ok (.invokevirtual 182, 3) := by decide +kernel
theorem zd232_41 : decode zxm232.2.1 41 = .ok (.bipush 61, 2) := by decide +kernel
theorem zd232_43 : decode zxm232.2.1 43 = .ok (.if_icmp .ne 8, 3) := by decide +kernel
theorem zd232_46 : decode zxm232.2.1 46 = .ok (.bipush 9, 2) := by decide +kernel
theorem zd232_48 : decode zxm232.2.1 48 = .ok (.goto 4, 3) := by decide +kernel
theorem zd232_51 : decode zxm232.2.1 51 = .ok (.iconst (-1), 1) := by decide +kernel
theorem zd232_52 : decode zxm232.2.1 52 = .ok (.istore_n 1, 1) := by decide +kernel
theorem zd232_53 : decode zxm232.2.1 53 = .ok (.iload_n 1, 1) := by decide +kernel
theorem zd232_54 : decode zxm232.2.1 54 = .ok (.iconst (-1), 1) := by decide +kernel
theorem zd232_55 : decode zxm232.2.1 55 = .ok (.if_icmp .ne 13, 3) := by decide +kernel
theorem zd232_58 : decode zxm232.2.1 58 = .ok (.aload_n 0, 1) := by decide +kernel
theorem zd232_59 : decode zxm232.2.1 59 = .ok (.iconst 1, 1) := by decide +kernel
theorem zd232_60 : decode zxm232.2.1 60 = .ok (.aload_n 0, 1) := by decide +kernel
theorem zd232_61 : decode zxm232.2.1 61 = .ok (.getfield 176, 3) := by decide +kernel
theorem zd232_64 : decode zxm232.2.1 64 = .ok (.invokevirtual 189, 3) := by decide +kernel
theorem zd232_67 : decode zxm232.2.1 67 = .ok (.ireturn, 1) := by decide +kernel
theorem zd232_68 : decode zxm232.2.1 68 = .ok (.aload_n 0, 1) := by decide +kernel
theorem zd232_69 : decode zxm232.2.1 69 = .ok (.aload_n 0, 1) := by decide +kernel
theorem zd232_70 : decode zxm232.2.1 70 = .ok (.getfield 176, 3) := by decide +kernel
theorem zd232_73 : decode zxm232.2.1 73 = .ok (.iconst 1, 1) := by decide +kernel
theorem zd232_74 : decode zxm232.2.1 74 = .ok (.iadd, 1) := by decide +kernel
theorem zd232_75 : decode zxm232.2.1 75 = .ok (.putfield 176, 3) := by decide +kernel
theorem zd232_78 : decode zxm232.2.1 78 = .ok (.aload_n 0, 1) := by decide +kernel
theorem zd232_79 : decode zxm232.2.1 79 = .ok (.invokevirtual 238, 3) := by decide +kernel
theorem zd232_82 : decode zxm232.2.1 82 = .ok (.ifCond .ne 5, 3) := by decide +kernel
theorem zd232_85 : decode zxm232.2.1 85 = .ok (.iconst 0, 1) := by decide +kernel
theorem zd232_86 : decode zxm232.2.1 86 = .ok (.ireturn, 1) := by decide +kernel
theorem zd232_87 : decode zxm232.2.1 87 = .ok (.aload_n 0, 1) := by decide +kernel
theorem zd232_88 : decode zxm232.2.1 88 = .ok (.iload_n 1, 1) := by decide +kernel
theorem zd232_89 : decode zxm232.2.1 89 = .ok (.iconst 0, 1) := by decide +kernel
theorem zd232_90 : decode zxm232.2.1 90 = .ok (.invokevirtual 212, 3) := by decide +kernel
theorem zd232_93 : decode zxm232.2.1 93 = .ok (.aload_n 0, 1) := by decide +kernel
theorem zd232_94 : decode zxm232.2.1 94 = .ok (.invokevirtual 241, 3) := by decide +kernel
theorem zd232_97 : decode zxm232.2.1 97 = .ok (.iconst 1, 1) := by decide +kernel
theorem zd232_98 : decode zxm232.2.1 98 = .ok (.ireturn, 1) := by decide +kernel
theorem zh232  : zn_OK z_TB z_cl z_KX zyM zxm232 (5, 300) (fun va F G => va = [.inr 0] ∧ F = pl :: len :: fl :: op :: cm :: wt :: nb :: Fr ∧ G = tape :: said :: w :: Gr ∧ zp_s e0 D said w pl len cm wt d ∧ zp_low0 w wt) (fun va F G r F' G' => (r = some 0 ∧ zp_no len tape Fr Gr F' G') ∨ (r = some 1 ∧ ∃ D' said' w' pl' op' cm' wt' nb', F' = pl' :: len :: fl :: op' :: cm' :: wt' :: nb' :: Fr ∧ G' = tape :: said' :: w' :: Gr ∧ zp_s e0 D' said' w' pl' len cm' wt' (d + 1) ∧ (∀ k, k ≤ cm → D' k = D k) ∧ cm ≤ cm' ∧ wt' ≤ wt ∧ (∀ j, j < wt' → w' j = w j) ∧ (∀ i, wt' ≤ i → i < wt → w i / 1048576 = 10) ∧ pl < pl')) := zn_meth (K := zkM) (FT := z_FT) (MT := z_MT) (n := 1) zxp232 (z_ks13 _ (fun _ h => List.mem_cons_of_mem _ h) _ _ _ _ (fun j r h _ => by cases h)) (fun _ _ => zs_KX_p) (by decide +kernel) (fun va F G h => by obtain ⟨rfl, _⟩ := h; rfl) rfl fun good va F G hB hret hvret hP => by
  obtain ⟨rfl, rfl, rfl, hs, hl⟩ := hP
  obtain ⟨a1, a2, a3, a4, a5, a6, a7, a8⟩ := hs.1
  refine zn_ald hB zd232_0 rfl rfl rfl ?_
  refine zn_iv0 hB (zh220 (e0 := e0) (D := D) (said := said) (w := w) (pl := pl) (cm := cm) (wt := wt) (d := d) (len := len)) zd232_1 zxt220 rfl ⟨rfl, rfl, rfl, hs, hl⟩ (fun r1 F1 G1 hq1 => ?_)
  rcases hq1 with ⟨rfl, p0, f0, o0, c0, w0, n0, s0, t0, rfl, rfl⟩ | ⟨rfl, D1, said1, w1, pl1, op1, cm1, nb1, rfl, rfl, g1, g2, g3, g4, g5, g6⟩
  · refine zn_zne hB zd232_4 rfl (fun h4 => ?_) (fun h4 => ?_)
    · exfalso; omega
    · refine zn_con hB zd232_7 rfl ?_
      exact hret _ _ _ _ _ zd232_8 (by constructor <;> decide) (Or.inl ⟨rfl, _, _, _, _, _, _, _, _, rfl, rfl⟩)
  · refine zn_zne hB zd232_4 rfl (fun h4 => ?_) (fun h4 => ?_)
    · obtain ⟨b1, b2, b3, b4, b5, b6, b7, b8⟩ := g1.1
      have hpn := zp_pn_nn (w := w1) (a := wt)
      have body : ∀ hw, 7 ≤ hw → hw ≤ 9 → pl1 < len → good 52 [.inr 0, .inr 1000] [.inl hw] (pl1 :: len :: fl :: op1 :: cm1 :: wt :: nb1 :: Fr) (tape :: said1 :: w1 :: Gr) := by
        intro hw hw1 hw2 hlt
        refine zn_ist hB zd232_52 rfl rfl rfl ?_
        refine zn_ild hB zd232_53 rfl rfl ?_
        refine zn_con hB zd232_54 rfl ?_
        refine zn_cne hB zd232_55 rfl (fun h55 => ?_) (fun h55 => ?_)
        · refine zn_ald hB zd232_68 rfl rfl rfl ?_
          refine zn_ald hB zd232_69 rfl rfl rfl ?_
          refine zn_getf hB zd232_70 rfl rfl (fun q70 r70 => ?_)
          refine zn_con hB zd232_73 rfl ?_
          refine zn_iadd hB zd232_74 (by omega) (by omega) ?_
          refine zn_putf hB zd232_75 rfl rfl (fun h => by cases h) rfl ?_
          refine zn_ald hB zd232_78 rfl rfl rfl ?_
          refine zn_iv0 hB (zh220 (e0 := e0 + 1) (D := D1) (said := said1) (w := w1) (pl := pl1 + 1) (cm := cm1) (wt := wt) (d := d + 1) (len := len)) zd232_79 zxt220 rfl ⟨rfl, rfl, rfl, zp_on1 g1 hlt, zp_low0_cg hl a2 g4⟩ (fun r79 F79 G79 hq79 => ?_)
          rcases hq79 with ⟨rfl, p0, f0, o0, c0, w0, n0, s0, t0, rfl, rfl⟩ | ⟨rfl, D2, said2, w2, pl2, op2, cm2, nb2, rfl, rfl, k1, k2, k3, k4, k5, k6⟩
          · refine zn_zne hB zd232_82 rfl (fun h82 => ?_) (fun h82 => ?_)
            · exfalso; omega
            · refine zn_con hB zd232_85 rfl ?_
              exact hret _ _ _ _ _ zd232_86 (by constructor <;> decide) (Or.inl ⟨rfl, _, _, _, _, _, _, _, _, rfl, rfl⟩)
          · refine zn_zne hB zd232_82 rfl (fun h82 => ?_) (fun h82 => ?_)
            · have hk := k1.1
              have hpn2 := zp_pn_nn (w := w2) (a := wt)
              refine zn_ald hB zd232_87 rfl rfl rfl ?_
              refine zn_ild hB zd232_88 rfl rfl ?_
              refine zn_con hB zd232_89 rfl ?_
              refine zn_iv2 hB (zh225 (cm := cm2) (said := said2)) zd232_90 zxt225 rfl ⟨rfl, rfl, rfl, by omega, by omega, by omega, by omega, by omega, by omega⟩ (fun r90 F90 G90 hq90 => ?_)
              obtain ⟨rfl, rfl, rfl⟩ := hq90
              have n1 := zp_note (pl2 := pl2) (op := hw) (v := 0) (d' := d + 1) (zp_we k1) (by omega) (by omega) (by omega) (by omega) (Or.inr (Or.inr (Or.inl (by omega))))
              refine zn_ald hB zd232_93 rfl rfl rfl ?_
              refine zn_iv0 hB (zh233 (e0 := e0) (D := zn_up D2 (cm2 + 1) (d + 1)) (d := d + 1) (wt := wt) (cm := cm2 + 1) (pl := pl2) (len := len)) zd232_94 zxt233 rfl ⟨rfl, rfl, rfl, n1, by omega⟩ (fun r94 F94 G94 hq94 => ?_)
              obtain ⟨rfl, D3, said3, op3, cm3, wt3, rfl, rfl, m1, m2, m3, m4, m5⟩ := hq94
              refine zn_con hB zd232_97 rfl ?_
              refine hret _ _ _ _ _ zd232_98 (by constructor <;> decide) (Or.inr ⟨rfl, D3, said3, w2, pl2, op3, cm3, wt3, nb2, rfl, rfl, m1, fun k hk => ?_, by omega, m3, fun j hj => ?_, fun i i1 i2 => ?_, by omega⟩)
              · rw [m2 k (by omega), zn_up_n (by omega), k2 k (by omega), g2 k hk]
              · rw [k4 j (by omega), g4 j (by omega)]
              · have := m5 i i1 i2
                rw [k4 i i2, g4 i i2] at this
                exact this
            · exfalso; omega
        · exfalso; omega
      refine zn_ald hB zd232_9 rfl rfl rfl ?_
      refine zn_iv0 hB (zh217 (pl := pl1) (len := len) (tape := tape)) zd232_10 zxt217 rfl ⟨rfl, rfl, rfl, by omega, by omega⟩ (fun r10 F10 G10 hq10 => ?_)
      obtain ⟨rfl, rfl, rfl⟩ := hq10
      refine zn_con hB zd232_13 rfl ?_
      refine zn_cne hB zd232_15 rfl (fun h15 => ?_) (fun h15 => ?_)
      · refine zn_ald hB zd232_23 rfl rfl rfl ?_
        refine zn_iv0 hB (zh217 (pl := pl1) (len := len) (tape := tape)) zd232_24 zxt217 rfl ⟨rfl, rfl, rfl, by omega, by omega⟩ (fun r24 F24 G24 hq24 => ?_)
        obtain ⟨rfl, rfl, rfl⟩ := hq24
        refine zn_con hB zd232_27 rfl ?_
        refine zn_cne hB zd232_29 rfl (fun h29 => ?_) (fun h29 => ?_)
        · refine zn_ald hB zd232_37 rfl rfl rfl ?_
          refine zn_iv0 hB (zh217 (pl := pl1) (len := len) (tape := tape)) zd232_38 zxt217 rfl ⟨rfl, rfl, rfl, by omega, by omega⟩ (fun r38 F38 G38 hq38 => ?_)
          obtain ⟨rfl, rfl, rfl⟩ := hq38
          refine zn_con hB zd232_41 rfl ?_
          refine zn_cne hB zd232_43 rfl (fun h43 => ?_) (fun h43 => ?_)
          · refine zn_con hB zd232_51 rfl ?_
            refine zn_ist hB zd232_52 rfl rfl rfl ?_
            refine zn_ild hB zd232_53 rfl rfl ?_
            refine zn_con hB zd232_54 rfl ?_
            refine zn_cne hB zd232_55 rfl (fun h55 => ?_) (fun h55 => ?_)
            · exfalso; omega
            · refine zn_ald hB zd232_58 rfl rfl rfl ?_
              refine zn_con hB zd232_59 rfl ?_
              refine zn_ald hB zd232_60 rfl rfl rfl ?_
              refine zn_getf hB zd232_61 rfl rfl (fun q61 r61 => ?_)
              refine zn_iv2 hB zh219 zd232_64 zxt219 rfl ⟨rfl, rfl⟩ (fun r64 F64 G64 hq64 => ?_)
              obtain ⟨rfl, fl1, rfl, rfl⟩ := hq64
              exact hret _ _ _ _ _ zd232_67 (by constructor <;> decide) (Or.inl ⟨rfl, _, _, _, _, _, _, _, _, rfl, rfl⟩)
          · refine zn_con hB zd232_46 rfl ?_
            refine zn_goto hB zd232_48 rfl ?_
            exact body _ (by omega) (by omega) (zp_h_lt (tape := tape) (by omega))
        · refine zn_con hB zd232_32 rfl ?_
          refine zn_goto hB zd232_34 rfl ?_
          exact body _ (by omega) (by omega) (zp_h_lt (tape := tape) (by omega))
      · refine zn_con hB zd232_18 rfl ?_
        refine zn_goto hB zd232_20 rfl ?_
        exact body _ (by omega) (by omega) (zp_h_lt (tape := tape) (by omega))
    · exfalso; omega
end ZREAD4
