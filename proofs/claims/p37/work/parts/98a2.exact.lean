/-! star and walk of the class: what entries may become. -/
abbrev zs_UX : zuU := [(0, (0, 23), (0, 23)), (1, (0, 23), (0, 11)), (2, (0, 23), (1, 9)), (3, (0, 23), (-3, 3)), (4, (0, 23), (-3, 3))]
section ZSX
variable {t i c r b n x y : Int} {co ro br wc wr : Int → Int}
theorem zsy14  : zn_OK z_TB z_cl z_KX zyX zxm14 (1, 60) (fun va F G => va = [.inr 0, .inl i, .inl c, .inl r, .inl b] ∧ F = [t] ∧ G = [co, ro, br, wc, wr]) (fun va F G r' F' G' => (r' = some 0 ∨ r' = some 1) ∧ F' = [zs_star t i c r b] ∧ ∃ co' ro' br' wc' wr', G' = [co', ro', br', wc', wr'] ∧ (∀ j : Int, zu_oI zs_UX 0 co (co' j) j) ∧ (∀ j : Int, zu_oI zs_UX 1 ro (ro' j) j) ∧ (∀ j : Int, zu_oI zs_UX 2 br (br' j) j) ∧ (∀ j : Int, zu_oI zs_UX 3 wc (wc' j) j) ∧ (∀ j : Int, zu_oI zs_UX 4 wr (wr' j) j)) := zn_meth (K := (z_KF0, z_KC0, z_KL0, z_KT0, [], [], [], none)) (FT := z_FT) (MT := z_MT) (n := 5) zxp14 (z_ks0 _ (fun _ h => List.mem_cons_of_mem _ h) _ _ _ _ (fun j r h _ => by cases h)) (fun _ _ => zs_KX_p) (by decide +kernel) (fun va F G h => by obtain ⟨rfl, _⟩ := h; rfl) rfl fun good va F G hB hret hvret hP => by
  obtain ⟨rfl, rfl, rfl⟩ := hP
  refine zn_ild hB zd14_0 rfl rfl ?_
  refine zn_con hB zd14_1 rfl ?_
  refine zn_con hB zd14_2 rfl ?_
  refine zn_it3 hB (zsx15 (n := i) (x := 0) (y := 23)) zd14_4 zxt15 rfl rfl (fun r4 F4 G4 hq4 => ?_)
  obtain ⟨rfl, rfl, hq4⟩ := hq4
  cases hq4
  refine zn_zeq hB zd14_7 rfl (fun n7 => ?_) (fun n7 => ?_)
  · refine zn_con hB zd14_29 rfl ?_
    exact hret _ _ _ _ _ zd14_30 (by constructor <;> decide) ⟨Or.inl rfl, by unfold zs_star; rw [if_neg (by intro h; obtain ⟨h1, h2, h3⟩ := h; omega)], co, ro, br, wc, wr, rfl, zu_rf, zu_rf, zu_rf, zu_rf, zu_rf⟩
  · refine zn_ild hB zd14_10 rfl rfl ?_
    refine zn_ild hB zd14_11 rfl rfl ?_
    refine zn_it2 hB (zsx16 (x := c) (y := r)) zd14_12 zxt16 rfl rfl (fun r12 F12 G12 hq12 => ?_)
    obtain ⟨rfl, rfl, hq12⟩ := hq12
    cases hq12
    refine zn_zeq hB zd14_15 rfl (fun n15 => ?_) (fun n15 => ?_)
    · refine zn_con hB zd14_29 rfl ?_
      exact hret _ _ _ _ _ zd14_30 (by constructor <;> decide) ⟨Or.inl rfl, by unfold zs_star; rw [if_neg (by intro h; obtain ⟨h1, h2, h3⟩ := h; omega)], co, ro, br, wc, wr, rfl, zu_rf, zu_rf, zu_rf, zu_rf, zu_rf⟩
    · refine zn_ild hB zd14_18 rfl rfl ?_
      refine zn_con hB zd14_20 rfl ?_
      refine zn_con hB zd14_21 rfl ?_
      refine zn_it3 hB (zsx15 (n := b) (x := 1) (y := 9)) zd14_23 zxt15 rfl rfl (fun r23 F23 G23 hq23 => ?_)
      obtain ⟨rfl, rfl, hq23⟩ := hq23
      cases hq23
      refine zn_zne hB zd14_26 rfl (fun n26 => ?_) (fun n26 => ?_)
      · obtain ⟨hi, hi1, hi2⟩ := zs_in_ne n7
        obtain ⟨hp, hp1, hp2, hp3, hp4⟩ := zs_pl_ne n15
        obtain ⟨hb, hb1, hb2⟩ := zs_in_ne n26
        refine zn_ald hB zd14_31 rfl rfl rfl ?_
        refine zn_getr hB zd14_32 rfl ?_
        refine zn_dup hB zd14_35 ?_
        refine zn_getf hB zd14_36 rfl rfl (fun q36 r36 => ?_)
        refine zn_con hB zd14_39 rfl ?_
        refine zn_ild hB zd14_40 rfl rfl ?_
        refine zn_binv hB zd14_41 rfl ?_
        refine zn_binv hB zd14_42 rfl ?_
        refine zn_putf hB zd14_43 rfl rfl (fun h => by cases h) rfl ?_
        refine zn_ald hB zd14_46 rfl rfl rfl ?_
        refine zn_getr hB zd14_47 rfl ?_
        refine zn_getr hB zd14_50 rfl ?_
        refine zn_ild hB zd14_53 rfl rfl ?_
        refine zn_ild hB zd14_54 rfl rfl ?_
        refine zn_iast hB zd14_55 rfl rfl (by omega) (by omega) ?_
        refine zn_ald hB zd14_56 rfl rfl rfl ?_
        refine zn_getr hB zd14_57 rfl ?_
        refine zn_getr hB zd14_60 rfl ?_
        refine zn_ild hB zd14_63 rfl rfl ?_
        refine zn_ild hB zd14_64 rfl rfl ?_
        refine zn_iast hB zd14_65 rfl rfl (by omega) (by omega) ?_
        refine zn_ald hB zd14_66 rfl rfl rfl ?_
        refine zn_getr hB zd14_67 rfl ?_
        refine zn_getr hB zd14_70 rfl ?_
        refine zn_ild hB zd14_73 rfl rfl ?_
        refine zn_ild hB zd14_74 rfl rfl ?_
        refine zn_iast hB zd14_76 rfl rfl (by omega) (by omega) ?_
        refine zn_ald hB zd14_77 rfl rfl rfl ?_
        refine zn_getr hB zd14_78 rfl ?_
        refine zn_getr hB zd14_81 rfl ?_
        refine zn_ild hB zd14_84 rfl rfl ?_
        refine zn_con hB zd14_85 rfl ?_
        refine zn_iast hB zd14_86 rfl rfl (by omega) (by omega) ?_
        refine zn_ald hB zd14_87 rfl rfl rfl ?_
        refine zn_getr hB zd14_88 rfl ?_
        refine zn_getr hB zd14_91 rfl ?_
        refine zn_ild hB zd14_94 rfl rfl ?_
        refine zn_con hB zd14_95 rfl ?_
        refine zn_iast hB zd14_96 rfl rfl (by omega) (by omega) ?_
        refine zn_con hB zd14_97 rfl ?_
        exact hret _ _ _ _ _ zd14_98 (by constructor <;> decide) ⟨Or.inr rfl, by unfold zs_star; rw [if_pos ⟨hi, hp, hb⟩]; rfl, zn_up co i c, zn_up ro i r, zn_up br i b, zn_up wc i 0, zn_up wr i 0, rfl, zs_u (g := co) zu_rf 0 0 23 0 23 rfl (by omega) (by omega) (by omega) (by omega), zs_u (g := ro) zu_rf 1 0 23 0 11 rfl (by omega) (by omega) (by omega) (by omega), zs_u (g := br) zu_rf 2 0 23 1 9 rfl (by omega) (by omega) (by omega) (by omega), zs_u (g := wc) zu_rf 3 0 23 (-3) 3 rfl (by omega) (by omega) (by omega) (by omega), zs_u (g := wr) zu_rf 4 0 23 (-3) 3 rfl (by omega) (by omega) (by omega) (by omega)⟩
      · refine zn_con hB zd14_29 rfl ?_
        exact hret _ _ _ _ _ zd14_30 (by constructor <;> decide) ⟨Or.inl rfl, by unfold zs_star; rw [if_neg (by intro h; obtain ⟨h1, h2, h3⟩ := h; omega)], co, ro, br, wc, wr, rfl, zu_rf, zu_rf, zu_rf, zu_rf, zu_rf⟩
theorem zsy17  : zn_OK z_TB z_cl z_KX zyX zxm17 (1, 60) (fun va F G => va = [.inr 0, .inl i, .inl c, .inl r] ∧ F = [t] ∧ G = [co, ro, br, wc, wr]) (fun va F G r' F' G' => F' = F ∧ r' = some (zs_walk t i c r) ∧ ∃ wc' wr', G' = [co, ro, br, wc', wr'] ∧ (∀ j : Int, zu_oI zs_UX 3 wc (wc' j) j) ∧ (∀ j : Int, zu_oI zs_UX 4 wr (wr' j) j)) := zn_meth (K := (z_KF0, z_KC0, z_KL0, z_KT0, [], [], [], none)) (FT := z_FT) (MT := z_MT) (n := 4) zxp17 (z_ks0 _ (fun _ h => List.mem_cons_of_mem _ h) _ _ _ _ (fun j r h _ => by cases h)) (fun _ _ => zs_KX_p) (by decide +kernel) (fun va F G h => by obtain ⟨rfl, _⟩ := h; rfl) rfl fun good va F G hB hret hvret hP => by
  obtain ⟨rfl, rfl, rfl⟩ := hP
  refine zn_ald hB zd17_0 rfl rfl rfl ?_
  refine zn_getr hB zd17_1 rfl ?_
  refine zn_ild hB zd17_4 rfl rfl ?_
  refine zn_iv1 hB (zsx18 (i := i) (t := t)) zd17_5 zxt18 rfl ⟨rfl, rfl⟩ (fun r5 F5 G5 hq5 => ?_)
  obtain ⟨rfl, rfl, hq5⟩ := hq5
  cases hq5
  refine zn_zeq hB zd17_8 rfl (fun n8 => ?_) (fun n8 => ?_)
  · refine zn_con hB zd17_31 rfl ?_
    exact hret _ _ _ _ _ zd17_32 (by constructor <;> decide) ⟨rfl, by unfold zs_walk; rw [if_neg (by intro h; obtain ⟨h1, h2, h3⟩ := h; omega)], wc, wr, rfl, zu_rf, zu_rf⟩
  · refine zn_ild hB zd17_11 rfl rfl ?_
    refine zn_con hB zd17_12 rfl ?_
    refine zn_con hB zd17_14 rfl ?_
    refine zn_it3 hB (zsx15 (n := c) (x := (-3)) (y := 3)) zd17_15 zxt15 rfl rfl (fun r15 F15 G15 hq15 => ?_)
    obtain ⟨rfl, rfl, hq15⟩ := hq15
    cases hq15
    refine zn_zeq hB zd17_18 rfl (fun n18 => ?_) (fun n18 => ?_)
    · refine zn_con hB zd17_31 rfl ?_
      exact hret _ _ _ _ _ zd17_32 (by constructor <;> decide) ⟨rfl, by unfold zs_walk; rw [if_neg (by intro h; obtain ⟨h1, h2, h3⟩ := h; omega)], wc, wr, rfl, zu_rf, zu_rf⟩
    · refine zn_ild hB zd17_21 rfl rfl ?_
      refine zn_con hB zd17_22 rfl ?_
      refine zn_con hB zd17_24 rfl ?_
      refine zn_it3 hB (zsx15 (n := r) (x := (-3)) (y := 3)) zd17_25 zxt15 rfl rfl (fun r25 F25 G25 hq25 => ?_)
      obtain ⟨rfl, rfl, hq25⟩ := hq25
      cases hq25
      refine zn_zne hB zd17_28 rfl (fun n28 => ?_) (fun n28 => ?_)
      · obtain ⟨hi, hi1, hi2⟩ := zs_has_ne n8
        obtain ⟨hc, hc1, hc2⟩ := zs_in_ne n18
        obtain ⟨hr, hr6, hr7⟩ := zs_in_ne n28
        refine zn_ald hB zd17_33 rfl rfl rfl ?_
        refine zn_getr hB zd17_34 rfl ?_
        refine zn_getr hB zd17_37 rfl ?_
        refine zn_ild hB zd17_40 rfl rfl ?_
        refine zn_ild hB zd17_41 rfl rfl ?_
        refine zn_iast hB zd17_42 rfl rfl (by omega) (by omega) ?_
        refine zn_ald hB zd17_43 rfl rfl rfl ?_
        refine zn_getr hB zd17_44 rfl ?_
        refine zn_getr hB zd17_47 rfl ?_
        refine zn_ild hB zd17_50 rfl rfl ?_
        refine zn_ild hB zd17_51 rfl rfl ?_
        refine zn_iast hB zd17_52 rfl rfl (by omega) (by omega) ?_
        refine zn_con hB zd17_53 rfl ?_
        exact hret _ _ _ _ _ zd17_54 (by constructor <;> decide) ⟨rfl, by unfold zs_walk; rw [if_pos ⟨hi, hc, hr⟩], zn_up wc i c, zn_up wr i r, rfl, zs_u (g := wc) zu_rf 3 0 23 (-3) 3 rfl (by omega) (by omega) (by omega) (by omega), zs_u (g := wr) zu_rf 4 0 23 (-3) 3 rfl (by omega) (by omega) (by omega) (by omega)⟩
      · refine zn_con hB zd17_31 rfl ?_
        exact hret _ _ _ _ _ zd17_32 (by constructor <;> decide) ⟨rfl, by unfold zs_walk; rw [if_neg (by intro h; obtain ⟨h1, h2, h3⟩ := h; omega)], wc, wr, rfl, zu_rf, zu_rf⟩
end ZSX
