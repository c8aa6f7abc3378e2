/-! What is told: exactly, in the reference. -/
abbrev zyT : zNL := (4, [(0, 12)], [(0, 12, 63, 0)], [(0, 12, 0, 1), (0, 12, 1, 2), (0, 12, 2, 3)], [(1, 0, 422, 0), (2, 0, 422, 1), (3, 0, 422, 2)])
abbrev zs_UM : zuU := [(0, (126, 126), (0, 16777215)), (0, (0, 23), (0, 23)), (0, (24, 47), (0, 11)), (0, (48, 71), (1, 9)), (0, (72, 119), (-3, 3))]
theorem zs_u {UP : zuU} {j : Nat} {g h : Int → Int} {a v : Int} (k : ∀ i : Int, zu_oI UP j g (h i) i) (n lo hi : Nat) (r1 r2 : Int) (hm : UP[n]? = some (j, (lo, hi), (r1, r2))) (h1 : (lo : Int) ≤ a) (h2 : a ≤ (hi : Int)) (h3 : r1 ≤ v) (h4 : v ≤ r2) : ∀ i : Int, zu_oI UP j g (zn_up h a v i) i := zu_st k ⟨_, List.mem_of_getElem? hm, rfl, h1, h2, h3, h4⟩
section ZST
variable {k t i c r b n x y : Int} {nw as kp : Int → Int}
theorem zsm200  : zn_OK z_TB z_cl z_KX zyT zxm200 (0, 0) (fun va F G => va = [.inl n, .inl x, .inl y]) (fun va F G r' F' G' => F' = F ∧ G' = G ∧ r' = some (zs_in n x y)) := zn_meth (K := zkM) (FT := z_FT) (MT := z_MT) (n := 3) zxp200 (z_ks13 _ (fun _ h => List.mem_cons_of_mem _ h) _ _ _ _ (fun j r h _ => by cases h)) (fun _ _ => zs_KX_p) (by decide +kernel) (fun va F G h => by first | (obtain ⟨rfl, _⟩ := h; rfl) | (obtain rfl := h; rfl)) rfl fun good va F G hB hret hvret hP => by
  obtain rfl := hP
  refine zn_ild hB zd200_0 rfl rfl ?_
  refine zn_ild hB zd200_1 rfl rfl ?_
  refine zn_clt hB zd200_2 rfl (fun h2 => ?_) (fun h2 => ?_)
  · refine zn_con hB zd200_14 rfl ?_
    exact hret _ _ _ _ _ zd200_15 (by constructor <;> decide) ⟨rfl, rfl, by unfold zs_in; first | rw [if_pos (by omega)] | rw [if_neg (by omega)]⟩
  · refine zn_ild hB zd200_5 rfl rfl ?_
    refine zn_ild hB zd200_6 rfl rfl ?_
    refine zn_cgt hB zd200_7 rfl (fun h7 => ?_) (fun h7 => ?_)
    · refine zn_con hB zd200_14 rfl ?_
      exact hret _ _ _ _ _ zd200_15 (by constructor <;> decide) ⟨rfl, rfl, by unfold zs_in; first | rw [if_pos (by omega)] | rw [if_neg (by omega)]⟩
    · refine zn_con hB zd200_10 rfl ?_
      refine zn_goto hB zd200_11 rfl ?_
      exact hret _ _ _ _ _ zd200_15 (by constructor <;> decide) ⟨rfl, rfl, by unfold zs_in; first | rw [if_pos (by omega)] | rw [if_neg (by omega)]⟩
theorem zd201_0 : decode zxm201.2.1 0 = .ok (.iload_n 0, 1) := by decide +kernel
theorem zd201_1 : decode zxm201.2.1 1 = .ok (.ifCond .lt 23, 3) := by decide +kernel
theorem zd201_4 : decode zxm201.2.1 4 = .ok (.iload_n 0, 1) := by decide +kernel
theorem zd201_5 : decode zxm201.2.1 5 = .ok (.bipush 24, 2) := by decide +kernel
theorem zd201_7 : decode zxm201.2.1 7 = .ok (.if_icmp .ge 17, 3) := by decide +kernel
theorem zd201_10 : decode zxm201.2.1 10 = .ok (.iload_n 1, 1) := by decide +kernel
theorem zd201_11 : decode zxm201.2.1 11 = .ok (.ifCond .lt 13, 3) := by decide +kernel
theorem zd201_14 : decode zxm201.2.1 14 = .ok (.iload_n 1, 1) := by decide +kernel
theorem zd201_15 : decode zxm201.2.1 15 = .ok (.bipush 12, 2) := by decide +kernel
theorem zd201_17 : decode zxm201.2.1 17 = .ok (.if_icmp .ge 7, 3) := by decide +kernel
theorem zd201_20 : decode zxm201.2.1 20 = .ok (.iconst 1, 1) := by decide +kernel
theorem zd201_21 : decode zxm201.2.1 21 = .ok (.goto 4, 3) := by decide +kernel
theorem zd201_24 : decode zxm201.2.1 24 = .ok (.iconst 0, 1) := by decide +kernel
theorem zd201_25 : decode zxm201.2.1 25 = .ok (.ireturn, 1) := by decide +kernel
theorem zsm201  : zn_OK z_TB z_cl z_KX zyT zxm201 (0, 0) (fun va F G => va = [.inl x, .inl y]) (fun va F G r' F' G' => F' = F ∧ G' = G ∧ r' = some (zs_pl x y)) := zn_meth (K := zkM) (FT := z_FT) (MT := z_MT) (n := 2) zxp201 (z_ks13 _ (fun _ h => List.mem_cons_of_mem _ h) _ _ _ _ (fun j r h _ => by cases h)) (fun _ _ => zs_KX_p) (by decide +kernel) (fun va F G h => by first | (obtain ⟨rfl, _⟩ := h; rfl) | (obtain rfl := h; rfl)) rfl fun good va F G hB hret hvret hP => by
  obtain rfl := hP
  refine zn_ild hB zd201_0 rfl rfl ?_
  refine zn_zlt hB zd201_1 rfl (fun h1 => ?_) (fun h1 => ?_)
  · refine zn_con hB zd201_24 rfl ?_
    exact hret _ _ _ _ _ zd201_25 (by constructor <;> decide) ⟨rfl, rfl, by unfold zs_pl; first | rw [if_pos (by omega)] | rw [if_neg (by omega)]⟩
  · refine zn_ild hB zd201_4 rfl rfl ?_
    refine zn_con hB zd201_5 rfl ?_
    refine zn_cge hB zd201_7 rfl (fun h7 => ?_) (fun h7 => ?_)
    · refine zn_con hB zd201_24 rfl ?_
      exact hret _ _ _ _ _ zd201_25 (by constructor <;> decide) ⟨rfl, rfl, by unfold zs_pl; first | rw [if_pos (by omega)] | rw [if_neg (by omega)]⟩
    · refine zn_ild hB zd201_10 rfl rfl ?_
      refine zn_zlt hB zd201_11 rfl (fun h11 => ?_) (fun h11 => ?_)
      · refine zn_con hB zd201_24 rfl ?_
        exact hret _ _ _ _ _ zd201_25 (by constructor <;> decide) ⟨rfl, rfl, by unfold zs_pl; first | rw [if_pos (by omega)] | rw [if_neg (by omega)]⟩
      · refine zn_ild hB zd201_14 rfl rfl ?_
        refine zn_con hB zd201_15 rfl ?_
        refine zn_cge hB zd201_17 rfl (fun h17 => ?_) (fun h17 => ?_)
        · refine zn_con hB zd201_24 rfl ?_
          exact hret _ _ _ _ _ zd201_25 (by constructor <;> decide) ⟨rfl, rfl, by unfold zs_pl; first | rw [if_pos (by omega)] | rw [if_neg (by omega)]⟩
        · refine zn_con hB zd201_20 rfl ?_
          refine zn_goto hB zd201_21 rfl ?_
          exact hret _ _ _ _ _ zd201_25 (by constructor <;> decide) ⟨rfl, rfl, by unfold zs_pl; first | rw [if_pos (by omega)] | rw [if_neg (by omega)]⟩
theorem zsm204  : zn_OK z_TB z_cl z_KX zyT zxm204 (0, 0) (fun va F G => va = [.inl t, .inl i]) (fun va F G r' F' G' => F' = F ∧ G' = G ∧ r' = some (if zs_bit t i = 1 then 1 else 0)) := zn_meth (K := zkM) (FT := z_FT) (MT := z_MT) (n := 2) zxp204 (z_ks13 _ (fun _ h => List.mem_cons_of_mem _ h) _ _ _ _ (fun j r h _ => by cases h)) (fun _ _ => zs_KX_p) (by decide +kernel) (fun va F G h => by first | (obtain ⟨rfl, _⟩ := h; rfl) | (obtain rfl := h; rfl)) rfl fun good va F G hB hret hvret hP => by
  obtain rfl := hP
  refine zn_ild hB zd204_0 rfl rfl ?_
  refine zn_ild hB zd204_1 rfl rfl ?_
  refine zn_binv hB zd204_2 rfl ?_
  refine zn_con hB zd204_3 rfl ?_
  refine zn_binv hB zd204_4 rfl ?_
  refine zn_con hB zd204_5 rfl ?_
  refine zn_cne hB zd204_6 rfl (fun hx6 => ?_) (fun hx6 => ?_)
  · refine zn_con hB zd204_13 rfl ?_
    exact hret _ _ _ _ _ zd204_14 (by constructor <;> decide) ⟨rfl, rfl, by first | exact congrArg some (if_pos (show zs_bit t i = 1 from hx6)).symm | exact congrArg some (if_neg (show ¬ zs_bit t i = 1 from hx6)).symm⟩
  · refine zn_con hB zd204_9 rfl ?_
    refine zn_goto hB zd204_10 rfl ?_
    exact hret _ _ _ _ _ zd204_14 (by constructor <;> decide) ⟨rfl, rfl, by first | exact congrArg some (if_pos (show zs_bit t i = 1 from hx6)).symm | exact congrArg some (if_neg (show ¬ zs_bit t i = 1 from hx6)).symm⟩
theorem zsm203  : zn_OK z_TB z_cl z_KX zyT zxm203 (1, 60) (fun va F G => va = [.inr 0, .inl i] ∧ G = [nw, as, kp]) (fun va F G r' F' G' => F' = F ∧ G' = G ∧ r' = some (zs_has (nw 126) i)) := zn_meth (K := zkM) (FT := z_FT) (MT := z_MT) (n := 2) zxp203 (z_ks13 _ (fun _ h => List.mem_cons_of_mem _ h) _ _ _ _ (fun j r h _ => by cases h)) (fun _ _ => zs_KX_p) (by decide +kernel) (fun va F G h => by first | (obtain ⟨rfl, _⟩ := h; rfl) | (obtain rfl := h; rfl)) rfl fun good va F G hB hret hvret hP => by
  obtain ⟨rfl, rfl⟩ := hP
  refine zn_ild hB zd203_0 rfl rfl ?_
  refine zn_zlt hB zd203_1 rfl (fun h1 => ?_) (fun h1 => ?_)
  · refine zn_con hB zd203_28 rfl ?_
    exact hret _ _ _ _ _ zd203_29 (by constructor <;> decide) ⟨rfl, rfl, by first | exact zs_has_1 (by omega) (by omega) (fun h => by rw [h] at hx21; exact hx21 rfl) | exact zs_has_0 (by rcases zs_bit01 (t := nw 126) (i := i) with h | h; exact h; exfalso; rw [if_pos h] at hx21; exact absurd hx21 (by decide)) | exact zs_has_l (by omega)⟩
  · refine zn_ild hB zd203_4 rfl rfl ?_
    refine zn_con hB zd203_5 rfl ?_
    refine zn_cge hB zd203_7 rfl (fun h7 => ?_) (fun h7 => ?_)
    · refine zn_con hB zd203_28 rfl ?_
      exact hret _ _ _ _ _ zd203_29 (by constructor <;> decide) ⟨rfl, rfl, by first | exact zs_has_1 (by omega) (by omega) (fun h => by rw [h] at hx21; exact hx21 rfl) | exact zs_has_0 (by rcases zs_bit01 (t := nw 126) (i := i) with h | h; exact h; exfalso; rw [if_pos h] at hx21; exact absurd hx21 (by decide)) | exact zs_has_l (by omega)⟩
    · refine zn_ald hB zd203_10 rfl rfl rfl ?_
      refine zn_getr hB zd203_11 rfl ?_
      refine zn_con hB zd203_14 rfl ?_
      refine zn_iald hB zd203_16 rfl rfl (by omega) (by omega) (fun q16 r16 => ?_)
      refine zn_ild hB zd203_17 rfl rfl ?_
      refine zn_it2 hB (zsm204 (t := nw 126) (i := i)) zd203_18 zxt204 rfl rfl (fun r18 F18 G18 hq18 => ?_)
      obtain ⟨rfl, rfl, hq18⟩ := hq18
      cases hq18
      refine zn_zeq hB zd203_21 rfl (fun hx21 => ?_) (fun hx21 => ?_)
      · refine zn_con hB zd203_28 rfl ?_
        exact hret _ _ _ _ _ zd203_29 (by constructor <;> decide) ⟨rfl, rfl, by first | exact zs_has_1 (by omega) (by omega) (fun h => by rw [h] at hx21; exact hx21 rfl) | exact zs_has_0 (by rcases zs_bit01 (t := nw 126) (i := i) with h | h; exact h; exfalso; rw [if_pos h] at hx21; exact absurd hx21 (by decide)) | exact zs_has_l (by omega)⟩
      · refine zn_con hB zd203_24 rfl ?_
        refine zn_goto hB zd203_25 rfl ?_
        exact hret _ _ _ _ _ zd203_29 (by constructor <;> decide) ⟨rfl, rfl, by first | exact zs_has_1 (by omega) (by omega) (fun h => by rw [h] at hx21; exact hx21 rfl) | exact zs_has_0 (by rcases zs_bit01 (t := nw 126) (i := i) with h | h; exact h; exfalso; rw [if_pos h] at hx21; exact absurd hx21 (by decide)) | exact zs_has_l (by omega)⟩
theorem zd199_0 : decode zxm199.2.1 0 = .ok (.iload_n 1, 1) := by decide +kernel
theorem zd199_1 : decode zxm199.2.1 1 = .ok (.iconst 0, 1) := by decide +kernel
theorem zd199_2 : decode zxm199.2.1 2 = .ok (.bipush 23, 2) := by decide +kernel
theorem zd199_4 : decode zxm199.2.1 4 = .ok (.invokestatic 150, 3) := by decide +kernel
theorem zd199_7 : decode zxm199.2.1 7 = .ok (.ifCond .eq 22, 3) := by decide +kernel
theorem zd199_10 : decode zxm199.2.1 10 = .ok (.iload_n 2, 1) := by decide +kernel
theorem zd199_11 : decode zxm199.2.1 11 = .ok (.iload_n 3, 1) := by decide +kernel
theorem zd199_12 : decode zxm199.2.1 12 = .ok (.invokestatic 154, 3) := by decide +kernel
theorem zd199_15 : decode zxm199.2.1 15 = .ok (.ifCond .eq 14, 3) := by decide +kernel
theorem zd199_18 : decode zxm199.2.1 18 = .ok (.iload 4, 2) := by decide +kernel
theorem zd199_20 : decode zxm199.2.1 20 = .ok (.iconst 1, 1) := by decide +kernel
theorem zd199_21 : decode zxm199.2.1 21 = .ok (.bipush 9, 2) := by decide +kernel
theorem zd199_23 : decode zxm199.2.1 23 = .ok (.invokestatic 150, 3) := by decide +kernel
theorem zd199_26 : decode zxm199.2.1 26 = .ok (.ifCond .ne 5, 3) := by decide +kernel
theorem zd199_29 : decode zxm199.2.1 29 = .ok (.iconst 0, 1) := by decide +kernel
theorem zd199_30 : decode zxm199.2.1 30 = .ok (.ireturn, 1) := by decide +kernel
theorem zd199_31 : decode zxm199.2.1 31 = .ok (.aload_n 0, 1) := by decide +kernel
theorem zd199_32 : decode zxm199.2.1 32 = .ok (.getfield 7, 3) := by decide +kernel
theorem zd199_35 : decode zxm199.2.1 35 = .ok (.bipush 126, 2) := by decide +kernel
theorem zd199_37 : decode zxm199.2.1 37 = .ok (.aload_n 0, 1) := by decide +kernel
theorem zd199_38 : decode zxm199.2.1 38 = .ok (.getfield 7, 3) := by decide +kernel
theorem zd199_41 : decode zxm199.2.1 41 = .ok (.bipush 126, 2) := by decide +kernel
theorem zd199_43 : decode zxm199.2.1 43 = .ok (.iaload, 1) := by decide +kernel
theorem zd199_44 : decode zxm199.2.1 44 = .ok (.iconst 1, 1) := by decide +kernel
theorem zd199_45 : decode zxm199.2.1 45 = .ok (.iload_n 1, 1) := by decide +kernel
theorem zd199_46 : decode zxm199.2.1 46 = .ok (.ishl, 1) := by decide +kernel
theorem zd199_47 : decode zxm199.2.1 47 = .ok (.ior, 1) := by decide +kernel
theorem zd199_48 : decode zxm199.2.1 48 = .ok (.iastore, 1) := by decide +kernel
theorem zd199_49 : decode zxm199.2.1 49 = .ok (.aload_n 0, 1) := by decide +kernel
theorem zd199_50 : decode zxm199.2.1 50 = .ok (.getfield 7, 3) := by decide +kernel
theorem zd199_53 : decode zxm199.2.1 53 = .ok (.iconst 0, 1) := by decide +kernel
theorem zd199_54 : decode zxm199.2.1 54 = .ok (.iload_n 1, 1) := by decide +kernel
theorem zd199_55 : decode zxm199.2.1 55 = .ok (.iadd, 1) := by decide +kernel
theorem zd199_56 : decode zxm199.2.1 56 = .ok (.iload_n 2, 1) := by decide +kernel
theorem zd199_57 : decode zxm199.2.1 57 = .ok (.iastore, 1) := by decide +kernel
theorem zd199_58 : decode zxm199.2.1 58 = .ok (.aload_n 0, 1) := by decide +kernel
theorem zd199_59 : decode zxm199.2.1 59 = .ok (.getfield 7, 3) := by decide +kernel
theorem zd199_62 : decode zxm199.2.1 62 = .ok (.bipush 24, 2) := by decide +kernel
theorem zd199_64 : decode zxm199.2.1 64 = .ok (.iload_n 1, 1) := by decide +kernel
theorem zd199_65 : decode zxm199.2.1 65 = .ok (.iadd, 1) := by decide +kernel
theorem zd199_66 : decode zxm199.2.1 66 = .ok (.iload_n 3, 1) := by decide +kernel
theorem zd199_67 : decode zxm199.2.1 67 = .ok (.iastore, 1) := by decide +kernel
theorem zd199_68 : decode zxm199.2.1 68 = .ok (.aload_n 0, 1) := by decide +kernel
theorem zd199_69 : decode zxm199.2.1 69 = .ok (.getfield 7, 3) := by decide +kernel
theorem zd199_72 : decode zxm199.2.1 72 = .ok (.bipush 48, 2) := by decide +kernel
theorem zd199_74 : decode zxm199.2.1 74 = .ok (.iload_n 1, 1) := by decide +kernel
theorem zd199_75 : decode zxm199.2.1 75 = .ok (.iadd, 1) := by decide +kernel
theorem zd199_76 : decode zxm199.2.1 76 = .ok (.iload 4, 2) := by decide +kernel
theorem zd199_78 : decode zxm199.2.1 78 = .ok (.iastore, 1) := by decide +kernel
theorem zd199_79 : decode zxm199.2.1 79 = .ok (.aload_n 0, 1) := by decide +kernel
theorem zd199_80 : decode zxm199.2.1 80 = .ok (.getfield 7, 3) := by decide +kernel
theorem zd199_83 : decode zxm199.2.1 83 = .ok (.bipush 72, 2) := by decide +kernel
theorem zd199_85 : decode zxm199.2.1 85 = .ok (.iload_n 1, 1) := by decide +kernel
theorem zd199_86 : decode zxm199.2.1 86 = .ok (.iadd, 1) := by decide +kernel
theorem zd199_87 : decode zxm199.2.1 87 = .ok (.iconst 0, 1) := by decide +kernel
theorem zd199_88 : decode zxm199.2.1 88 = .ok (.iastore, 1) := by decide +kernel
theorem zd199_89 : decode zxm199.2.1 89 = .ok (.aload_n 0, 1) := by decide +kernel
theorem zd199_90 : decode zxm199.2.1 90 = .ok (.getfield 7, 3) := by decide +kernel
theorem zd199_93 : decode zxm199.2.1 93 = .ok (.bipush 96, 2) := by decide +kernel
theorem zd199_95 : decode zxm199.2.1 95 = .ok (.iload_n 1, 1) := by decide +kernel
theorem zd199_96 : decode zxm199.2.1 96 = .ok (.iadd, 1) := by decide +kernel
theorem zd199_97 : decode zxm199.2.1 97 = .ok (.iconst 0, 1) := by decide +kernel
theorem zd199_98 : decode zxm199.2.1 98 = .ok (.iastore, 1) := by decide +kernel
theorem zd199_99 : decode zxm199.2.1 99 = .ok (.iconst 1, 1) := by decide +kernel
theorem zd199_100 : decode zxm199.2.1 100 = .ok (.ireturn, 1) := by decide +kernel
theorem zsm199  : zn_OK z_TB z_cl z_KX zyT zxm199 (1, 60) (fun va F G => va = [.inr 0, .inl i, .inl c, .inl r, .inl b] ∧ F = [k] ∧ G = [nw, as, kp] ∧ 0 ≤ nw 126 ∧ nw 126 ≤ 16777215) (fun va F G r' F' G' => (r' = some 0 ∨ r' = some 1) ∧ F' = [k] ∧ ∃ nw', G' = [nw', as, kp] ∧ nw' 126 = zs_star (nw 126) i c r b ∧ ∀ i : Int, zu_oI zs_UM 0 nw (nw' i) i) := zn_meth (K := zkM) (FT := z_FT) (MT := z_MT) (n := 5) zxp199 (z_ks13 _ (fun _ h => List.mem_cons_of_mem _ h) _ _ _ _ (fun j r h _ => by cases h)) (fun _ _ => zs_KX_p) (by decide +kernel) (fun va F G h => by first | (obtain ⟨rfl, _⟩ := h; rfl) | (obtain rfl := h; rfl)) rfl fun good va F G hB hret hvret hP => by
  obtain ⟨rfl, rfl, rfl, h0, h1⟩ := hP
  refine zn_ild hB zd199_0 rfl rfl ?_
  refine zn_con hB zd199_1 rfl ?_
  refine zn_con hB zd199_2 rfl ?_
  refine zn_it3 hB (zsm200 (n := i) (x := 0) (y := 23)) zd199_4 zxt200 rfl rfl (fun r4 F4 G4 hq4 => ?_)
  obtain ⟨rfl, rfl, hq4⟩ := hq4
  cases hq4
  refine zn_zeq hB zd199_7 rfl (fun n7 => ?_) (fun n7 => ?_)
  · refine zn_con hB zd199_29 rfl ?_
    exact hret _ _ _ _ _ zd199_30 (by constructor <;> decide) ⟨Or.inl rfl, rfl, nw, rfl, by unfold zs_star; rw [if_neg (by intro h; obtain ⟨h1, h2, h3⟩ := h; omega)], zu_rf⟩
  · refine zn_ild hB zd199_10 rfl rfl ?_
    refine zn_ild hB zd199_11 rfl rfl ?_
    refine zn_it2 hB (zsm201 (x := c) (y := r)) zd199_12 zxt201 rfl rfl (fun r12 F12 G12 hq12 => ?_)
    obtain ⟨rfl, rfl, hq12⟩ := hq12
    cases hq12
    refine zn_zeq hB zd199_15 rfl (fun n15 => ?_) (fun n15 => ?_)
    · refine zn_con hB zd199_29 rfl ?_
      exact hret _ _ _ _ _ zd199_30 (by constructor <;> decide) ⟨Or.inl rfl, rfl, nw, rfl, by unfold zs_star; rw [if_neg (by intro h; obtain ⟨h1, h2, h3⟩ := h; omega)], zu_rf⟩
    · refine zn_ild hB zd199_18 rfl rfl ?_
      refine zn_con hB zd199_20 rfl ?_
      refine zn_con hB zd199_21 rfl ?_
      refine zn_it3 hB (zsm200 (n := b) (x := 1) (y := 9)) zd199_23 zxt200 rfl rfl (fun r23 F23 G23 hq23 => ?_)
      obtain ⟨rfl, rfl, hq23⟩ := hq23
      cases hq23
      refine zn_zne hB zd199_26 rfl (fun n26 => ?_) (fun n26 => ?_)
      · obtain ⟨hi, hi1, hi2⟩ := zs_in_ne n7
        obtain ⟨hp, hp1, hp2, hp3, hp4⟩ := zs_pl_ne n15
        obtain ⟨hb, hb1, hb2⟩ := zs_in_ne n26
        refine zn_ald hB zd199_31 rfl rfl rfl ?_
        refine zn_getr hB zd199_32 rfl ?_
        refine zn_con hB zd199_35 rfl ?_
        refine zn_ald hB zd199_37 rfl rfl rfl ?_
        refine zn_getr hB zd199_38 rfl ?_
        refine zn_con hB zd199_41 rfl ?_
        refine zn_iald hB zd199_43 rfl rfl (by omega) (by omega) (fun q43 r43 => ?_)
        refine zn_con hB zd199_44 rfl ?_
        refine zn_ild hB zd199_45 rfl rfl ?_
        refine zn_binv hB zd199_46 rfl ?_
        refine zn_binv hB zd199_47 rfl ?_
        refine zn_iast hB zd199_48 rfl rfl (by omega) (by omega) ?_
        refine zn_ald hB zd199_49 rfl rfl rfl ?_
        refine zn_getr hB zd199_50 rfl ?_
        refine zn_con hB zd199_53 rfl ?_
        refine zn_ild hB zd199_54 rfl rfl ?_
        refine zn_iadd hB zd199_55 (by omega) (by omega) ?_
        refine zn_ild hB zd199_56 rfl rfl ?_
        refine zn_iast hB zd199_57 rfl rfl (by omega) (by omega) ?_
        refine zn_ald hB zd199_58 rfl rfl rfl ?_
        refine zn_getr hB zd199_59 rfl ?_
        refine zn_con hB zd199_62 rfl ?_
        refine zn_ild hB zd199_64 rfl rfl ?_
        refine zn_iadd hB zd199_65 (by omega) (by omega) ?_
        refine zn_ild hB zd199_66 rfl rfl ?_
        refine zn_iast hB zd199_67 rfl rfl (by omega) (by omega) ?_
        refine zn_ald hB zd199_68 rfl rfl rfl ?_
        refine zn_getr hB zd199_69 rfl ?_
        refine zn_con hB zd199_72 rfl ?_
        refine zn_ild hB zd199_74 rfl rfl ?_
        refine zn_iadd hB zd199_75 (by omega) (by omega) ?_
        refine zn_ild hB zd199_76 rfl rfl ?_
        refine zn_iast hB zd199_78 rfl rfl (by omega) (by omega) ?_
        refine zn_ald hB zd199_79 rfl rfl rfl ?_
        refine zn_getr hB zd199_80 rfl ?_
        refine zn_con hB zd199_83 rfl ?_
        refine zn_ild hB zd199_85 rfl rfl ?_
        refine zn_iadd hB zd199_86 (by omega) (by omega) ?_
        refine zn_con hB zd199_87 rfl ?_
        refine zn_iast hB zd199_88 rfl rfl (by omega) (by omega) ?_
        refine zn_ald hB zd199_89 rfl rfl rfl ?_
        refine zn_getr hB zd199_90 rfl ?_
        refine zn_con hB zd199_93 rfl ?_
        refine zn_ild hB zd199_95 rfl rfl ?_
        refine zn_iadd hB zd199_96 (by omega) (by omega) ?_
        refine zn_con hB zd199_97 rfl ?_
        refine zn_iast hB zd199_98 rfl rfl (by omega) (by omega) ?_
        refine zn_con hB zd199_99 rfl ?_
        have ht := zs_star_in (t := nw 126) (i := i) (c := c) (r := r) (b := b) h0 h1
        have he : zs_star (nw 126) i c r b = zn_ev (fun x y => x ||| y) (nw 126) (zs_shl 1 i) := by unfold zs_star; rw [if_pos ⟨hi, hp, hb⟩]
        rw [he] at ht
        refine hret _ _ _ _ _ zd199_100 (by constructor <;> decide) ⟨Or.inr rfl, rfl, _, rfl, ?_, zs_u (zs_u (zs_u (zs_u (zs_u (zs_u zu_rf 0 126 126 0 16777215 rfl (by decide) (by decide) ht.1 ht.2) 1 0 23 0 23 rfl (by omega) (by omega) (by omega) (by omega)) 2 24 47 0 11 rfl (by omega) (by omega) (by omega) (by omega)) 3 48 71 1 9 rfl (by omega) (by omega) (by omega) (by omega)) 4 72 119 (-3) 3 rfl (by omega) (by omega) (by omega) (by omega)) 4 72 119 (-3) 3 rfl (by omega) (by omega) (by omega) (by omega)⟩
        rw [zn_up_n (by omega), zn_up_n (by omega), zn_up_n (by omega), zn_up_n (by omega), zn_up_n (by omega), zn_up_s, he]
        rfl
      · refine zn_con hB zd199_29 rfl ?_
        exact hret _ _ _ _ _ zd199_30 (by constructor <;> decide) ⟨Or.inl rfl, rfl, nw, rfl, by unfold zs_star; rw [if_neg (by intro h; obtain ⟨h1, h2, h3⟩ := h; omega)], zu_rf⟩
theorem zd205_0 : decode zxm205.2.1 0 = .ok (.aload_n 0, 1) := by decide +kernel
theorem zd205_1 : decode zxm205.2.1 1 = .ok (.iload_n 1, 1) := by decide +kernel
theorem zd205_2 : decode zxm205.2.1 2 = .ok (.invokevirtual 157, 3) := by decide +kernel
theorem zd205_5 : decode zxm205.2.1 5 = .ok (.ifCond .ne 5, 3) := by decide +kernel
theorem zd205_8 : decode zxm205.2.1 8 = .ok (.iconst 0, 1) := by decide +kernel
theorem zd205_9 : decode zxm205.2.1 9 = .ok (.ireturn, 1) := by decide +kernel
theorem zd205_10 : decode zxm205.2.1 10 = .ok (.aload_n 0, 1) := by decide +kernel
theorem zd205_11 : decode zxm205.2.1 11 = .ok (.getfield 7, 3) := by decide +kernel
theorem zd205_14 : decode zxm205.2.1 14 = .ok (.bipush 126, 2) := by decide +kernel
theorem zd205_16 : decode zxm205.2.1 16 = .ok (.aload_n 0, 1) := by decide +kernel
theorem zd205_17 : decode zxm205.2.1 17 = .ok (.getfield 7, 3) := by decide +kernel
theorem zd205_20 : decode zxm205.2.1 20 = .ok (.bipush 126, 2) := by decide +kernel
theorem zd205_22 : decode zxm205.2.1 22 = .ok (.iaload, 1) := by decide +kernel
theorem zd205_23 : decode zxm205.2.1 23 = .ok (.iconst 1, 1) := by decide +kernel
theorem zd205_24 : decode zxm205.2.1 24 = .ok (.iload_n 1, 1) := by decide +kernel
theorem zd205_25 : decode zxm205.2.1 25 = .ok (.ishl, 1) := by decide +kernel
theorem zd205_26 : decode zxm205.2.1 26 = .ok (.iconst (-1), 1) := by decide +kernel
theorem zd205_27 : decode zxm205.2.1 27 = .ok (.ixor, 1) := by decide +kernel
theorem zd205_28 : decode zxm205.2.1 28 = .ok (.iand, 1) := by decide +kernel
theorem zd205_29 : decode zxm205.2.1 29 = .ok (.iastore, 1) := by decide +kernel
theorem zd205_30 : decode zxm205.2.1 30 = .ok (.iconst 1, 1) := by decide +kernel
theorem zd205_31 : decode zxm205.2.1 31 = .ok (.ireturn, 1) := by decide +kernel
theorem zsm205  : zn_OK z_TB z_cl z_KX zyT zxm205 (2, 120) (fun va F G => va = [.inr 0, .inl i] ∧ F = [k] ∧ G = [nw, as, kp] ∧ 0 ≤ nw 126 ∧ nw 126 ≤ 16777215) (fun va F G r' F' G' => r' = some (zs_has (nw 126) i) ∧ F' = [k] ∧ ∃ nw', G' = [nw', as, kp] ∧ nw' 126 = zs_gone (nw 126) i ∧ ∀ i : Int, zu_oI zs_UM 0 nw (nw' i) i) := zn_meth (K := zkM) (FT := z_FT) (MT := z_MT) (n := 2) zxp205 (z_ks13 _ (fun _ h => List.mem_cons_of_mem _ h) _ _ _ _ (fun j r h _ => by cases h)) (fun _ _ => zs_KX_p) (by decide +kernel) (fun va F G h => by first | (obtain ⟨rfl, _⟩ := h; rfl) | (obtain rfl := h; rfl)) rfl fun good va F G hB hret hvret hP => by
  obtain ⟨rfl, rfl, rfl, h0, h1⟩ := hP
  refine zn_ald hB zd205_0 rfl rfl rfl ?_
  refine zn_ild hB zd205_1 rfl rfl ?_
  refine zn_iv1 hB (zsm203 (i := i) (nw := nw) (as := as) (kp := kp)) zd205_2 zxt203 rfl ⟨rfl, rfl⟩ (fun r2 F2 G2 hq2 => ?_)
  obtain ⟨rfl, rfl, hq2⟩ := hq2
  cases hq2
  refine zn_zne hB zd205_5 rfl (fun n5 => ?_) (fun n5 => ?_)
  · obtain ⟨g1, g2, g3⟩ := zs_has_ne n5
    refine zn_ald hB zd205_10 rfl rfl rfl ?_
    refine zn_getr hB zd205_11 rfl ?_
    refine zn_con hB zd205_14 rfl ?_
    refine zn_ald hB zd205_16 rfl rfl rfl ?_
    refine zn_getr hB zd205_17 rfl ?_
    refine zn_con hB zd205_20 rfl ?_
    refine zn_iald hB zd205_22 rfl rfl (by omega) (by omega) (fun q22 r22 => ?_)
    refine zn_con hB zd205_23 rfl ?_
    refine zn_ild hB zd205_24 rfl rfl ?_
    refine zn_binv hB zd205_25 rfl ?_
    refine zn_con hB zd205_26 rfl ?_
    refine zn_binv hB zd205_27 rfl ?_
    refine zn_binv hB zd205_28 rfl ?_
    refine zn_iast hB zd205_29 rfl rfl (by omega) (by omega) ?_
    refine zn_con hB zd205_30 rfl ?_
    have ht := zs_gone_in (t := nw 126) (i := i) h0 h1
    have he : zs_gone (nw 126) i = zn_ev (fun x y => x &&& y) (nw 126) (zn_ev (fun x y => x ^^^ y) (zs_shl 1 i) (-1)) := by unfold zs_gone; rw [if_pos g1]
    rw [he] at ht
    refine hret _ _ _ _ _ zd205_31 (by constructor <;> decide) ⟨by rw [g1], rfl, _, rfl, ?_, zs_u zu_rf 0 126 126 0 16777215 rfl (by decide) (by decide) ht.1 ht.2⟩
    rw [zn_up_s, he]
    rfl
  · refine zn_con hB zd205_8 rfl ?_
    exact hret _ _ _ _ _ zd205_9 (by constructor <;> decide) ⟨by rw [n5], rfl, nw, rfl, by unfold zs_gone; rw [if_neg (by omega)], zu_rf⟩
theorem zd202_0 : decode zxm202.2.1 0 = .ok (.aload_n 0, 1) := by decide +kernel
theorem zd202_1 : decode zxm202.2.1 1 = .ok (.iload_n 1, 1) := by decide +kernel
theorem zd202_2 : decode zxm202.2.1 2 = .ok (.invokevirtual 157, 3) := by decide +kernel
theorem zd202_5 : decode zxm202.2.1 5 = .ok (.ifCond .eq 23, 3) := by decide +kernel
theorem zd202_8 : decode zxm202.2.1 8 = .ok (.iload_n 2, 1) := by decide +kernel
theorem zd202_9 : decode zxm202.2.1 9 = .ok (.bipush (-3), 2) := by decide +kernel
theorem zd202_11 : decode zxm202.2.1 11 = .ok (.iconst 3, 1) := by decide +kernel
theorem zd202_12 : decode zxm202.2.1 12 = .ok (.invokestatic 150, 3) := by decide +kernel
theorem zd202_15 : decode zxm202.2.1 15 = .ok (.ifCond .eq 13, 3) := by decide +kernel
theorem zd202_18 : decode zxm202.2.1 18 = .ok (.iload_n 3, 1) := by decide +kernel
theorem zd202_19 : decode zxm202.2.1 19 = .ok (.bipush (-3), 2) := by decide +kernel
theorem zd202_21 : decode zxm202.2.1 21 = .ok (.iconst 3, 1) := by decide +kernel
theorem zd202_22 : decode zxm202.2.1 22 = .ok (.invokestatic 150, 3) := by decide +kernel
theorem zd202_25 : decode zxm202.2.1 25 = .ok (.ifCond .ne 5, 3) := by decide +kernel
theorem zd202_28 : decode zxm202.2.1 28 = .ok (.iconst 0, 1) := by decide +kernel
theorem zd202_29 : decode zxm202.2.1 29 = .ok (.ireturn, 1) := by decide +kernel
theorem zd202_30 : decode zxm202.2.1 30 = .ok (.aload_n 0, 1) := by decide +kernel
theorem zd202_31 : decode zxm202.2.1 31 = .ok (.getfield 7, 3) := by decide +kernel
theorem zd202_34 : decode zxm202.2.1 34 = .ok (.bipush 72, 2) := by decide +kernel
theorem zd202_36 : decode zxm202.2.1 36 = .ok (.iload_n 1, 1) := by decide +kernel
theorem zd202_37 : decode zxm202.2.1 37 = .ok (.iadd, 1) := by decide +kernel
theorem zd202_38 : decode zxm202.2.1 38 = .ok (.iload_n 2, 1) := by decide +kernel
theorem zd202_39 : decode zxm202.2.1 39 = .ok (.iastore, 1) := by decide +kernel
theorem zd202_40 : decode zxm202.2.1 40 = .ok (.aload_n 0, 1) := by decide +kernel
theorem zd202_41 : decode zxm202.2.1 41 = .ok (.getfield 7, 3) := by decide +kernel
theorem zd202_44 : decode zxm202.2.1 44 = .ok (.bipush 96, 2) := by decide +kernel
theorem zd202_46 : decode zxm202.2.1 46 = .ok (.iload_n 1, 1) := by decide +kernel
theorem zd202_47 : decode zxm202.2.1 47 = .ok (.iadd, 1) := by decide +kernel
theorem zd202_48 : decode zxm202.2.1 48 = .ok (.iload_n 3, 1) := by decide +kernel
theorem zd202_49 : decode zxm202.2.1 49 = .ok (.iastore, 1) := by decide +kernel
theorem zd202_50 : decode zxm202.2.1 50 = .ok (.iconst 1, 1) := by decide +kernel
theorem zd202_51 : decode zxm202.2.1 51 = .ok (.ireturn, 1) := by decide +kernel
theorem zsm202  : zn_OK z_TB z_cl z_KX zyT zxm202 (2, 120) (fun va F G => va = [.inr 0, .inl i, .inl c, .inl r] ∧ F = [k] ∧ G = [nw, as, kp] ∧ 0 ≤ nw 126 ∧ nw 126 ≤ 16777215) (fun va F G r' F' G' => r' = some (zs_walk (nw 126) i c r) ∧ F' = [k] ∧ ∃ nw', G' = [nw', as, kp] ∧ nw' 126 = nw 126 ∧ ∀ i : Int, zu_oI zs_UM 0 nw (nw' i) i) := zn_meth (K := zkM) (FT := z_FT) (MT := z_MT) (n := 4) zxp202 (z_ks13 _ (fun _ h => List.mem_cons_of_mem _ h) _ _ _ _ (fun j r h _ => by cases h)) (fun _ _ => zs_KX_p) (by decide +kernel) (fun va F G h => by first | (obtain ⟨rfl, _⟩ := h; rfl) | (obtain rfl := h; rfl)) rfl fun good va F G hB hret hvret hP => by
  obtain ⟨rfl, rfl, rfl, h0, h1⟩ := hP
  refine zn_ald hB zd202_0 rfl rfl rfl ?_
  refine zn_ild hB zd202_1 rfl rfl ?_
  refine zn_iv1 hB (zsm203 (i := i) (nw := nw) (as := as) (kp := kp)) zd202_2 zxt203 rfl ⟨rfl, rfl⟩ (fun r2 F2 G2 hq2 => ?_)
  obtain ⟨rfl, rfl, hq2⟩ := hq2
  cases hq2
  refine zn_zeq hB zd202_5 rfl (fun n5 => ?_) (fun n5 => ?_)
  · refine zn_con hB zd202_28 rfl ?_
    exact hret _ _ _ _ _ zd202_29 (by constructor <;> decide) ⟨by unfold zs_walk; rw [if_neg (by intro h; obtain ⟨h1, h2, h3⟩ := h; omega)], rfl, nw, rfl, rfl, zu_rf⟩
  · refine zn_ild hB zd202_8 rfl rfl ?_
    refine zn_con hB zd202_9 rfl ?_
    refine zn_con hB zd202_11 rfl ?_
    refine zn_it3 hB (zsm200 (n := c) (x := (-3)) (y := 3)) zd202_12 zxt200 rfl rfl (fun r12 F12 G12 hq12 => ?_)
    obtain ⟨rfl, rfl, hq12⟩ := hq12
    cases hq12
    refine zn_zeq hB zd202_15 rfl (fun n15 => ?_) (fun n15 => ?_)
    · refine zn_con hB zd202_28 rfl ?_
      exact hret _ _ _ _ _ zd202_29 (by constructor <;> decide) ⟨by unfold zs_walk; rw [if_neg (by intro h; obtain ⟨h1, h2, h3⟩ := h; omega)], rfl, nw, rfl, rfl, zu_rf⟩
    · refine zn_ild hB zd202_18 rfl rfl ?_
      refine zn_con hB zd202_19 rfl ?_
      refine zn_con hB zd202_21 rfl ?_
      refine zn_it3 hB (zsm200 (n := r) (x := (-3)) (y := 3)) zd202_22 zxt200 rfl rfl (fun r22 F22 G22 hq22 => ?_)
      obtain ⟨rfl, rfl, hq22⟩ := hq22
      cases hq22
      refine zn_zne hB zd202_25 rfl (fun n25 => ?_) (fun n25 => ?_)
      · obtain ⟨hi, hi1, hi2⟩ := zs_has_ne n5
        obtain ⟨hc, hc1, hc2⟩ := zs_in_ne n15
        obtain ⟨hr, hr6, hr7⟩ := zs_in_ne n25
        refine zn_ald hB zd202_30 rfl rfl rfl ?_
        refine zn_getr hB zd202_31 rfl ?_
        refine zn_con hB zd202_34 rfl ?_
        refine zn_ild hB zd202_36 rfl rfl ?_
        refine zn_iadd hB zd202_37 (by omega) (by omega) ?_
        refine zn_ild hB zd202_38 rfl rfl ?_
        refine zn_iast hB zd202_39 rfl rfl (by omega) (by omega) ?_
        refine zn_ald hB zd202_40 rfl rfl rfl ?_
        refine zn_getr hB zd202_41 rfl ?_
        refine zn_con hB zd202_44 rfl ?_
        refine zn_ild hB zd202_46 rfl rfl ?_
        refine zn_iadd hB zd202_47 (by omega) (by omega) ?_
        refine zn_ild hB zd202_48 rfl rfl ?_
        refine zn_iast hB zd202_49 rfl rfl (by omega) (by omega) ?_
        refine zn_con hB zd202_50 rfl ?_
        refine hret _ _ _ _ _ zd202_51 (by constructor <;> decide) ⟨by unfold zs_walk; rw [if_pos ⟨hi, hc, hr⟩], rfl, _, rfl, ?_, zs_u (zs_u zu_rf 4 72 119 (-3) 3 rfl (by omega) (by omega) (by omega) (by omega)) 4 72 119 (-3) 3 rfl (by omega) (by omega) (by omega) (by omega)⟩
        rw [zn_up_n (by omega), zn_up_n (by omega)]
      · refine zn_con hB zd202_28 rfl ?_
        exact hret _ _ _ _ _ zd202_29 (by constructor <;> decide) ⟨by unfold zs_walk; rw [if_neg (by intro h; obtain ⟨h1, h2, h3⟩ := h; omega)], rfl, nw, rfl, rfl, zu_rf⟩
theorem zd300_0 : decode zxm300.2.1 0 = .ok (.iconst 0, 1) := by decide +kernel
theorem zd300_1 : decode zxm300.2.1 1 = .ok (.istore_n 2, 1) := by decide +kernel
theorem zd300_2 : decode zxm300.2.1 2 = .ok (.iload_n 2, 1) := by decide +kernel
theorem zd300_3 : decode zxm300.2.1 3 = .ok (.sipush 422, 3) := by decide +kernel
theorem zd300_6 : decode zxm300.2.1 6 = .ok (.if_icmp .ge 15, 3) := by decide +kernel
theorem zd300_9 : decode zxm300.2.1 9 = .ok (.aload_n 1, 1) := by decide +kernel
theorem zd300_10 : decode zxm300.2.1 10 = .ok (.iload_n 2, 1) := by decide +kernel
theorem zd300_11 : decode zxm300.2.1 11 = .ok (.aload_n 0, 1) := by decide +kernel
theorem zd300_12 : decode zxm300.2.1 12 = .ok (.iload_n 2, 1) := by decide +kernel
theorem zd300_13 : decode zxm300.2.1 13 = .ok (.iaload, 1) := by decide +kernel
theorem zd300_14 : decode zxm300.2.1 14 = .ok (.iastore, 1) := by decide +kernel
theorem zd300_15 : decode zxm300.2.1 15 = .ok (.iinc 2 1, 3) := by decide +kernel
theorem zd300_18 : decode zxm300.2.1 18 = .ok (.goto (-16), 3) := by decide +kernel
theorem zd300_21 : decode zxm300.2.1 21 = .ok (.return_, 1) := by decide +kernel
theorem zsc12  : zn_OK z_TB z_cl z_KX zyT zxm300 (0, 0) (fun va F G => va = [.inr 1, .inr 2] ∧ G = [nw, as, kp]) (fun va F G r' F' G' => r' = none ∧ F' = F ∧ ∃ d : Int → Int, G' = [nw, d, kp] ∧ ∀ j, 0 ≤ j → j < 422 → d j = nw j) := zn_meth (K := zkM) (FT := z_FT) (MT := z_MT) (n := 2) zxp300 (z_ks13 _ (fun _ h => List.mem_cons_of_mem _ h) _ _ _ _ (fun j r h _ => by cases h)) (fun _ _ => zs_KX_p) (by decide +kernel) (fun va F G h => by first | (obtain ⟨rfl, _⟩ := h; rfl) | (obtain rfl := h; rfl)) rfl fun good va F G hB hret hvret hP => by
  obtain ⟨rfl, rfl⟩ := hP
  have key : ∀ (m : Nat) (q : Int) (d : Int → Int), 422 - q < m → 0 ≤ q → q ≤ 422 → (∀ j, 0 ≤ j → j < q → d j = nw j) → good 2 [.inr 1, .inr 2, .inl q] [] F [nw, d, kp] := by
    intro m
    induction m with
    | zero =>
      intro q d c1 c2 c3 c4
      exfalso; omega
    | succ m ih =>
      intro q d c1 c2 c3 c4
      refine zn_ild hB zd300_2 rfl rfl ?_
      refine zn_con hB zd300_3 rfl ?_
      refine zn_cge hB zd300_6 rfl (fun h6 => ?_) (fun h6 => ?_)
      · exact hvret _ _ _ _ zd300_21 trivial ⟨rfl, rfl, d, rfl, fun j j1 j2 => c4 j j1 (by omega)⟩
      · refine zn_ald hB zd300_9 rfl rfl rfl ?_
        refine zn_ild hB zd300_10 rfl rfl ?_
        refine zn_ald hB zd300_11 rfl rfl rfl ?_
        refine zn_ild hB zd300_12 rfl rfl ?_
        refine zn_iald hB zd300_13 rfl rfl (by omega) (by omega) (fun q13 r13 => ?_)
        refine zn_iast hB zd300_14 rfl rfl (by omega) (by omega) ?_
        refine zn_iinc hB zd300_15 rfl rfl (by omega) (by omega) ?_
        refine zn_goto hB zd300_18 rfl ?_
        refine ih _ _ (by omega) (by omega) (by omega) (fun j j1 j2 => ?_)
        by_cases e : j = q
        · rw [e]; exact zn_up_s
        · exact (zn_up_n e).trans (c4 j j1 (by omega))
  refine zn_con hB zd300_0 rfl ?_
  refine zn_ist hB zd300_1 rfl rfl rfl ?_
  exact key 423 0 as (by omega) (by omega) (by omega) (fun j j1 j2 => by omega)
theorem zsc21  : zn_OK z_TB z_cl z_KX zyT zxm300 (0, 0) (fun va F G => va = [.inr 2, .inr 1] ∧ G = [nw, as, kp]) (fun va F G r' F' G' => r' = none ∧ F' = F ∧ ∃ d : Int → Int, G' = [d, as, kp] ∧ ∀ j, 0 ≤ j → j < 422 → d j = as j) := zn_meth (K := zkM) (FT := z_FT) (MT := z_MT) (n := 2) zxp300 (z_ks13 _ (fun _ h => List.mem_cons_of_mem _ h) _ _ _ _ (fun j r h _ => by cases h)) (fun _ _ => zs_KX_p) (by decide +kernel) (fun va F G h => by first | (obtain ⟨rfl, _⟩ := h; rfl) | (obtain rfl := h; rfl)) rfl fun good va F G hB hret hvret hP => by
  obtain ⟨rfl, rfl⟩ := hP
  have key : ∀ (m : Nat) (q : Int) (d : Int → Int), 422 - q < m → 0 ≤ q → q ≤ 422 → (∀ j, 0 ≤ j → j < q → d j = as j) → good 2 [.inr 2, .inr 1, .inl q] [] F [d, as, kp] := by
    intro m
    induction m with
    | zero =>
      intro q d c1 c2 c3 c4
      exfalso; omega
    | succ m ih =>
      intro q d c1 c2 c3 c4
      refine zn_ild hB zd300_2 rfl rfl ?_
      refine zn_con hB zd300_3 rfl ?_
      refine zn_cge hB zd300_6 rfl (fun h6 => ?_) (fun h6 => ?_)
      · exact hvret _ _ _ _ zd300_21 trivial ⟨rfl, rfl, d, rfl, fun j j1 j2 => c4 j j1 (by omega)⟩
      · refine zn_ald hB zd300_9 rfl rfl rfl ?_
        refine zn_ild hB zd300_10 rfl rfl ?_
        refine zn_ald hB zd300_11 rfl rfl rfl ?_
        refine zn_ild hB zd300_12 rfl rfl ?_
        refine zn_iald hB zd300_13 rfl rfl (by omega) (by omega) (fun q13 r13 => ?_)
        refine zn_iast hB zd300_14 rfl rfl (by omega) (by omega) ?_
        refine zn_iinc hB zd300_15 rfl rfl (by omega) (by omega) ?_
        refine zn_goto hB zd300_18 rfl ?_
        refine ih _ _ (by omega) (by omega) (by omega) (fun j j1 j2 => ?_)
        by_cases e : j = q
        · rw [e]; exact zn_up_s
        · exact (zn_up_n e).trans (c4 j j1 (by omega))
  refine zn_con hB zd300_0 rfl ?_
  refine zn_ist hB zd300_1 rfl rfl rfl ?_
  exact key 423 0 nw (by omega) (by omega) (by omega) (fun j j1 j2 => by omega)
theorem zsc13  : zn_OK z_TB z_cl z_KX zyT zxm300 (0, 0) (fun va F G => va = [.inr 1, .inr 3] ∧ G = [nw, as, kp]) (fun va F G r' F' G' => r' = none ∧ F' = F ∧ ∃ d : Int → Int, G' = [nw, as, d] ∧ ∀ j, 0 ≤ j → j < 422 → d j = nw j) := zn_meth (K := zkM) (FT := z_FT) (MT := z_MT) (n := 2) zxp300 (z_ks13 _ (fun _ h => List.mem_cons_of_mem _ h) _ _ _ _ (fun j r h _ => by cases h)) (fun _ _ => zs_KX_p) (by decide +kernel) (fun va F G h => by first | (obtain ⟨rfl, _⟩ := h; rfl) | (obtain rfl := h; rfl)) rfl fun good va F G hB hret hvret hP => by
  obtain ⟨rfl, rfl⟩ := hP
  have key : ∀ (m : Nat) (q : Int) (d : Int → Int), 422 - q < m → 0 ≤ q → q ≤ 422 → (∀ j, 0 ≤ j → j < q → d j = nw j) → good 2 [.inr 1, .inr 3, .inl q] [] F [nw, as, d] := by
    intro m
    induction m with
    | zero =>
      intro q d c1 c2 c3 c4
      exfalso; omega
    | succ m ih =>
      intro q d c1 c2 c3 c4
      refine zn_ild hB zd300_2 rfl rfl ?_
      refine zn_con hB zd300_3 rfl ?_
      refine zn_cge hB zd300_6 rfl (fun h6 => ?_) (fun h6 => ?_)
      · exact hvret _ _ _ _ zd300_21 trivial ⟨rfl, rfl, d, rfl, fun j j1 j2 => c4 j j1 (by omega)⟩
      · refine zn_ald hB zd300_9 rfl rfl rfl ?_
        refine zn_ild hB zd300_10 rfl rfl ?_
        refine zn_ald hB zd300_11 rfl rfl rfl ?_
        refine zn_ild hB zd300_12 rfl rfl ?_
        refine zn_iald hB zd300_13 rfl rfl (by omega) (by omega) (fun q13 r13 => ?_)
        refine zn_iast hB zd300_14 rfl rfl (by omega) (by omega) ?_
        refine zn_iinc hB zd300_15 rfl rfl (by omega) (by omega) ?_
        refine zn_goto hB zd300_18 rfl ?_
        refine ih _ _ (by omega) (by omega) (by omega) (fun j j1 j2 => ?_)
        by_cases e : j = q
        · rw [e]; exact zn_up_s
        · exact (zn_up_n e).trans (c4 j j1 (by omega))
  refine zn_con hB zd300_0 rfl ?_
  refine zn_ist hB zd300_1 rfl rfl rfl ?_
  exact key 423 0 kp (by omega) (by omega) (by omega) (fun j j1 j2 => by omega)
theorem zsc31  : zn_OK z_TB z_cl z_KX zyT zxm300 (0, 0) (fun va F G => va = [.inr 3, .inr 1] ∧ G = [nw, as, kp]) (fun va F G r' F' G' => r' = none ∧ F' = F ∧ ∃ d : Int → Int, G' = [d, as, kp] ∧ ∀ j, 0 ≤ j → j < 422 → d j = kp j) := zn_meth (K := zkM) (FT := z_FT) (MT := z_MT) (n := 2) zxp300 (z_ks13 _ (fun _ h => List.mem_cons_of_mem _ h) _ _ _ _ (fun j r h _ => by cases h)) (fun _ _ => zs_KX_p) (by decide +kernel) (fun va F G h => by first | (obtain ⟨rfl, _⟩ := h; rfl) | (obtain rfl := h; rfl)) rfl fun good va F G hB hret hvret hP => by
  obtain ⟨rfl, rfl⟩ := hP
  have key : ∀ (m : Nat) (q : Int) (d : Int → Int), 422 - q < m → 0 ≤ q → q ≤ 422 → (∀ j, 0 ≤ j → j < q → d j = kp j) → good 2 [.inr 3, .inr 1, .inl q] [] F [d, as, kp] := by
    intro m
    induction m with
    | zero =>
      intro q d c1 c2 c3 c4
      exfalso; omega
    | succ m ih =>
      intro q d c1 c2 c3 c4
      refine zn_ild hB zd300_2 rfl rfl ?_
      refine zn_con hB zd300_3 rfl ?_
      refine zn_cge hB zd300_6 rfl (fun h6 => ?_) (fun h6 => ?_)
      · exact hvret _ _ _ _ zd300_21 trivial ⟨rfl, rfl, d, rfl, fun j j1 j2 => c4 j j1 (by omega)⟩
      · refine zn_ald hB zd300_9 rfl rfl rfl ?_
        refine zn_ild hB zd300_10 rfl rfl ?_
        refine zn_ald hB zd300_11 rfl rfl rfl ?_
        refine zn_ild hB zd300_12 rfl rfl ?_
        refine zn_iald hB zd300_13 rfl rfl (by omega) (by omega) (fun q13 r13 => ?_)
        refine zn_iast hB zd300_14 rfl rfl (by omega) (by omega) ?_
        refine zn_iinc hB zd300_15 rfl rfl (by omega) (by omega) ?_
        refine zn_goto hB zd300_18 rfl ?_
        refine ih _ _ (by omega) (by omega) (by omega) (fun j j1 j2 => ?_)
        by_cases e : j = q
        · rw [e]; exact zn_up_s
        · exact (zn_up_n e).trans (c4 j j1 (by omega))
  refine zn_con hB zd300_0 rfl ?_
  refine zn_ist hB zd300_1 rfl rfl rfl ?_
  exact key 423 0 nw (by omega) (by omega) (by omega) (fun j j1 j2 => by omega)
theorem zd299_0 : decode zxm299.2.1 0 = .ok (.aload_n 0, 1) := by decide +kernel
theorem zd299_1 : decode zxm299.2.1 1 = .ok (.getfield 7, 3) := by decide +kernel
theorem zd299_4 : decode zxm299.2.1 4 = .ok (.aload_n 0, 1) := by decide +kernel
theorem zd299_5 : decode zxm299.2.1 5 = .ok (.getfield 13, 3) := by decide +kernel
theorem zd299_8 : decode zxm299.2.1 8 = .ok (.invokestatic 134, 3) := by decide +kernel
theorem zd299_11 : decode zxm299.2.1 11 = .ok (.return_, 1) := by decide +kernel
theorem zsb12  : zn_OK z_TB z_cl z_KX zyT zxm299 (1, 60) (fun va F G => va = [.inr 0] ∧ G = [nw, as, kp]) (fun va F G r' F' G' => r' = none ∧ F' = F ∧ ∃ d : Int → Int, G' = [nw, d, kp] ∧ ∀ j, 0 ≤ j → j < 422 → d j = nw j) := zn_meth (K := zkM) (FT := z_FT) (MT := z_MT) (n := 1) zxp299 (z_ks13 _ (fun _ h => List.mem_cons_of_mem _ h) _ _ _ _ (fun j r h _ => by cases h)) (fun _ _ => zs_KX_p) (by decide +kernel) (fun va F G h => by first | (obtain ⟨rfl, _⟩ := h; rfl) | (obtain rfl := h; rfl)) rfl fun good va F G hB hret hvret hP => by
  obtain ⟨rfl, rfl⟩ := hP
  refine zn_ald hB zd299_0 rfl rfl rfl ?_
  refine zn_getr hB zd299_1 rfl ?_
  refine zn_ald hB zd299_4 rfl rfl rfl ?_
  refine zn_getr hB zd299_5 rfl ?_
  refine zn_it2 hB (zsc12 (nw := nw) (as := as) (kp := kp)) zd299_8 zxt300 rfl ⟨rfl, rfl⟩ (fun r8 F8 G8 hq8 => ?_)
  obtain ⟨rfl, rfl, d, rfl, hd⟩ := hq8
  exact hvret _ _ _ _ zd299_11 trivial ⟨rfl, rfl, d, rfl, hd⟩
theorem zd301_0 : decode zxm301.2.1 0 = .ok (.aload_n 0, 1) := by decide +kernel
theorem zd301_1 : decode zxm301.2.1 1 = .ok (.getfield 13, 3) := by decide +kernel
theorem zd301_4 : decode zxm301.2.1 4 = .ok (.aload_n 0, 1) := by decide +kernel
theorem zd301_5 : decode zxm301.2.1 5 = .ok (.getfield 7, 3) := by decide +kernel
theorem zd301_8 : decode zxm301.2.1 8 = .ok (.invokestatic 134, 3) := by decide +kernel
theorem zd301_11 : decode zxm301.2.1 11 = .ok (.return_, 1) := by decide +kernel
theorem zsb21  : zn_OK z_TB z_cl z_KX zyT zxm301 (1, 60) (fun va F G => va = [.inr 0] ∧ G = [nw, as, kp]) (fun va F G r' F' G' => r' = none ∧ F' = F ∧ ∃ d : Int → Int, G' = [d, as, kp] ∧ ∀ j, 0 ≤ j → j < 422 → d j = as j) := zn_meth (K := zkM) (FT := z_FT) (MT := z_MT) (n := 1) zxp301 (z_ks13 _ (fun _ h => List.mem_cons_of_mem _ h) _ _ _ _ (fun j r h _ => by cases h)) (fun _ _ => zs_KX_p) (by decide +kernel) (fun va F G h => by first | (obtain ⟨rfl, _⟩ := h; rfl) | (obtain rfl := h; rfl)) rfl fun good va F G hB hret hvret hP => by
  obtain ⟨rfl, rfl⟩ := hP
  refine zn_ald hB zd301_0 rfl rfl rfl ?_
  refine zn_getr hB zd301_1 rfl ?_
  refine zn_ald hB zd301_4 rfl rfl rfl ?_
  refine zn_getr hB zd301_5 rfl ?_
  refine zn_it2 hB (zsc21 (nw := nw) (as := as) (kp := kp)) zd301_8 zxt300 rfl ⟨rfl, rfl⟩ (fun r8 F8 G8 hq8 => ?_)
  obtain ⟨rfl, rfl, d, rfl, hd⟩ := hq8
  exact hvret _ _ _ _ zd301_11 trivial ⟨rfl, rfl, d, rfl, hd⟩
end ZST
