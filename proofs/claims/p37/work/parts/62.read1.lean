/-! The reading of laws: numbers, notes, what waits. -/
theorem zp_t_pos {w : Int → Int} {wt : Int} (h : 0 ≤ zp_t w wt) : wt ≠ 0 ∧ zp_t w wt = w (wt - 1) / 1048576 := by
  unfold zp_t at h ⊢
  split at h
  · omega
  · rename_i h2; exact ⟨h2, if_neg h2⟩
theorem zp_t_ne {w : Int → Int} {wt : Int} (h : wt ≠ 0) : zp_t w wt = w (wt - 1) / 1048576 := if_neg h
/-- what is left where nothing is read -/
def zp_no (len : Int) (tape : Int → Int) (Fr : List Int) (Gr : List (Int → Int)) (F' : List Int) (G' : List (Int → Int)) : Prop :=
  ∃ pl' fl' op' cm' wt' nb' said' w', F' = pl' :: len :: fl' :: op' :: cm' :: wt' :: nb' :: Fr ∧ G' = tape :: said' :: w' :: Gr
section ZREAD1
variable {pl len fl op cm wt nb d : Int} {tape said w D : Int → Int} {Fr : List Int} {Gr : List (Int → Int)}
theorem zd236_0 : decode zxm236.2.1 0 = .ok (.aload_n 0, 1) := by decide +kernel
theorem zd236_1 : decode zxm236.2.1 1 = .ok (.invokevirtual 182, 3) := by decide +kernel
theorem zd236_4 : decode zxm236.2.1 4 = .ok (.iload_n 1, 1) := by decide +kernel
theorem zd236_5 : decode zxm236.2.1 5 = .ok (.if_icmp .eq 13, 3) := by decide +kernel
theorem zd236_8 : decode zxm236.2.1 8 = .ok (.aload_n 0, 1) := by decide +kernel
theorem zd236_9 : decode zxm236.2.1 9 = .ok (.iconst 1, 1) := by decide +kernel
theorem zd236_10 : decode zxm236.2.1 10 = .ok (.aload_n 0, 1) := by decide +kernel
theorem zd236_11 : decode zxm236.2.1 11 = .ok (.getfield 176, 3) := by decide +kernel
theorem zd236_14 : decode zxm236.2.1 14 = .ok (.invokevirtual 189, 3) := by decide +kernel
theorem zd236_17 : decode zxm236.2.1 17 = .ok (.ireturn, 1) := by decide +kernel
theorem zd236_18 : decode zxm236.2.1 18 = .ok (.aload_n 0, 1) := by decide +kernel
theorem zd236_19 : decode zxm236.2.1 19 = .ok (.aload_n 0, 1) := by decide +kernel
theorem zd236_20 : decode zxm236.2.1 20 = .ok (.getfield 176, 3) := by decide +kernel
theorem zd236_23 : decode zxm236.2.1 23 = .ok (.iconst 1, 1) := by decide +kernel
theorem zd236_24 : decode zxm236.2.1 24 = .ok (.iadd, 1) := by decide +kernel
theorem zd236_25 : decode zxm236.2.1 25 = .ok (.putfield 176, 3) := by decide +kernel
theorem zd236_28 : decode zxm236.2.1 28 = .ok (.iconst 1, 1) := by decide +kernel
theorem zd236_29 : decode zxm236.2.1 29 = .ok (.ireturn, 1) := by decide +kernel
theorem zh236 {c : Int} : zn_OK z_TB z_cl z_KX zyM zxm236 (1, 60) (fun va F G => va = [.inr 0, .inl c] ∧ F = pl :: len :: fl :: Fr ∧ G = tape :: Gr ∧ 0 ≤ pl ∧ (pl < len → pl < 220) ∧ 0 ≤ c) (fun va F G r F' G' => (r = some 0 ∧ ∃ fl', F' = pl :: len :: fl' :: Fr ∧ G' = G) ∨ (r = some 1 ∧ F' = (pl + 1) :: len :: fl :: Fr ∧ G' = G ∧ pl < len)) := zn_meth (K := zkM) (FT := z_FT) (MT := z_MT) (n := 2) zxp236 (z_ks13 _ (fun _ h => List.mem_cons_of_mem _ h) _ _ _ _ (fun j r h _ => by cases h)) (fun _ _ => zs_KX_p) (by decide +kernel) (fun va F G h => by obtain ⟨rfl, _⟩ := h; rfl) rfl fun good va F G hB hret hvret hP => by
  obtain ⟨rfl, rfl, rfl, h0, h1, h2⟩ := hP
  refine zn_ald hB zd236_0 rfl rfl rfl ?_
  refine zn_iv0 hB (zh217 (pl := pl) (len := len) (tape := tape)) zd236_1 zxt217 rfl ⟨rfl, rfl, rfl, h0, h1⟩ (fun r1 F1 G1 hq1 => ?_)
  obtain ⟨rfl, rfl, rfl⟩ := hq1
  refine zn_ild hB zd236_4 rfl rfl ?_
  refine zn_ceq hB zd236_5 rfl (fun h5 => ?_) (fun h5 => ?_)
  · have hlt := zp_h_lt (tape := tape) (pl := pl) (len := len) (by omega)
    have hlt2 := h1 hlt
    refine zn_ald hB zd236_18 rfl rfl rfl ?_
    refine zn_ald hB zd236_19 rfl rfl rfl ?_
    refine zn_getf hB zd236_20 rfl rfl (fun q20 r20 => ?_)
    refine zn_con hB zd236_23 rfl ?_
    refine zn_iadd hB zd236_24 (by omega) (by omega) ?_
    refine zn_putf hB zd236_25 rfl rfl (fun h => by cases h) rfl ?_
    refine zn_con hB zd236_28 rfl ?_
    exact hret _ _ _ _ _ zd236_29 (by constructor <;> decide) (Or.inr ⟨rfl, rfl, rfl, hlt⟩)
  · refine zn_ald hB zd236_8 rfl rfl rfl ?_
    refine zn_con hB zd236_9 rfl ?_
    refine zn_ald hB zd236_10 rfl rfl rfl ?_
    refine zn_getf hB zd236_11 rfl rfl (fun q11 r11 => ?_)
    refine zn_iv2 hB zh219 zd236_14 zxt219 rfl ⟨rfl, rfl⟩ (fun r14 F14 G14 hq14 => ?_)
    obtain ⟨rfl, fl1, rfl, rfl⟩ := hq14
    exact hret _ _ _ _ _ zd236_17 (by constructor <;> decide) (Or.inl ⟨rfl, _, rfl, rfl⟩)
theorem zd225_0 : decode zxm225.2.1 0 = .ok (.aload_n 0, 1) := by decide +kernel
theorem zd225_1 : decode zxm225.2.1 1 = .ok (.getfield 23, 3) := by decide +kernel
theorem zd225_4 : decode zxm225.2.1 4 = .ok (.aload_n 0, 1) := by decide +kernel
theorem zd225_5 : decode zxm225.2.1 5 = .ok (.getfield 199, 3) := by decide +kernel
theorem zd225_8 : decode zxm225.2.1 8 = .ok (.ldc 202, 2) := by decide +kernel
theorem zd225_10 : decode zxm225.2.1 10 = .ok (.iload_n 1, 1) := by decide +kernel
theorem zd225_11 : decode zxm225.2.1 11 = .ok (.imul, 1) := by decide +kernel
theorem zd225_12 : decode zxm225.2.1 12 = .ok (.iload_n 2, 1) := by decide +kernel
theorem zd225_13 : decode zxm225.2.1 13 = .ok (.iadd, 1) := by decide +kernel
theorem zd225_14 : decode zxm225.2.1 14 = .ok (.iastore, 1) := by decide +kernel
theorem zd225_15 : decode zxm225.2.1 15 = .ok (.aload_n 0, 1) := by decide +kernel
theorem zd225_16 : decode zxm225.2.1 16 = .ok (.aload_n 0, 1) := by decide +kernel
theorem zd225_17 : decode zxm225.2.1 17 = .ok (.getfield 199, 3) := by decide +kernel
theorem zd225_20 : decode zxm225.2.1 20 = .ok (.iconst 1, 1) := by decide +kernel
theorem zd225_21 : decode zxm225.2.1 21 = .ok (.iadd, 1) := by decide +kernel
theorem zd225_22 : decode zxm225.2.1 22 = .ok (.putfield 199, 3) := by decide +kernel
theorem zd225_25 : decode zxm225.2.1 25 = .ok (.return_, 1) := by decide +kernel
theorem zh225 {o v : Int} : zn_OK z_TB z_cl z_KX zyM zxm225 (0, 0) (fun va F G => va = [.inr 0, .inl o, .inl v] ∧ F = pl :: len :: fl :: op :: cm :: Fr ∧ G = tape :: said :: Gr ∧ 0 ≤ o ∧ o ≤ 14 ∧ 0 ≤ v ∧ v < 1048576 ∧ 0 ≤ cm ∧ cm < 220) (fun va F G r F' G' => r = none ∧ F' = pl :: len :: fl :: op :: (cm + 1) :: Fr ∧ G' = tape :: zn_up said cm (1048576 * o + v) :: Gr) := zn_meth (K := zkM) (FT := z_FT) (MT := z_MT) (n := 3) zxp225 (z_ks13 _ (fun _ h => List.mem_cons_of_mem _ h) _ _ _ _ (fun j r h _ => by cases h)) (fun _ _ => zs_KX_p) (by decide +kernel) (fun va F G h => by obtain ⟨rfl, _⟩ := h; rfl) rfl fun good va F G hB hret hvret hP => by
  obtain ⟨rfl, rfl, rfl, h0, h1, h2, h3, h4, h5⟩ := hP
  refine zn_ald hB zd225_0 rfl rfl rfl ?_
  refine zn_getr hB zd225_1 rfl ?_
  refine zn_ald hB zd225_4 rfl rfl rfl ?_
  refine zn_getf hB zd225_5 rfl rfl (fun q5 r5 => ?_)
  refine zn_con (n := 1048576) hB zd225_8 (by decide +kernel) ?_
  refine zn_ild hB zd225_10 rfl rfl ?_
  refine zn_imul hB zd225_11 (by omega) (by omega) ?_
  refine zn_ild hB zd225_12 rfl rfl ?_
  refine zn_iadd hB zd225_13 (by omega) (by omega) ?_
  refine zn_iast hB zd225_14 rfl rfl (by omega) (by omega) ?_
  refine zn_ald hB zd225_15 rfl rfl rfl ?_
  refine zn_ald hB zd225_16 rfl rfl rfl ?_
  refine zn_getf hB zd225_17 rfl rfl (fun q17 r17 => ?_)
  refine zn_con hB zd225_20 rfl ?_
  refine zn_iadd hB zd225_21 (by omega) (by omega) ?_
  refine zn_putf hB zd225_22 rfl rfl (fun h => by cases h) rfl ?_
  exact hvret _ _ _ _ zd225_25 trivial ⟨rfl, rfl, rfl⟩
theorem zd229_0 : decode zxm229.2.1 0 = .ok (.aload_n 0, 1) := by decide +kernel
theorem zd229_1 : decode zxm229.2.1 1 = .ok (.getfield 206, 3) := by decide +kernel
theorem zd229_4 : decode zxm229.2.1 4 = .ok (.ifCond .ne 7, 3) := by decide +kernel
theorem zd229_7 : decode zxm229.2.1 7 = .ok (.iconst (-1), 1) := by decide +kernel
theorem zd229_8 : decode zxm229.2.1 8 = .ok (.goto 17, 3) := by decide +kernel
theorem zd229_11 : decode zxm229.2.1 11 = .ok (.aload_n 0, 1) := by decide +kernel
theorem zd229_12 : decode zxm229.2.1 12 = .ok (.getfield 26, 3) := by decide +kernel
theorem zd229_15 : decode zxm229.2.1 15 = .ok (.aload_n 0, 1) := by decide +kernel
theorem zd229_16 : decode zxm229.2.1 16 = .ok (.getfield 206, 3) := by decide +kernel
theorem zd229_19 : decode zxm229.2.1 19 = .ok (.iconst 1, 1) := by decide +kernel
theorem zd229_20 : decode zxm229.2.1 20 = .ok (.isub, 1) := by decide +kernel
theorem zd229_21 : decode zxm229.2.1 21 = .ok (.iaload, 1) := by decide +kernel
theorem zd229_22 : decode zxm229.2.1 22 = .ok (.ldc 202, 2) := by decide +kernel
theorem zd229_24 : decode zxm229.2.1 24 = .ok (.idiv, 1) := by decide +kernel
theorem zd229_25 : decode zxm229.2.1 25 = .ok (.ireturn, 1) := by decide +kernel
theorem zh229  : zn_OK z_TB z_cl z_KX zyM zxm229 (0, 0) (fun va F G => va = [.inr 0] ∧ F = pl :: len :: fl :: op :: cm :: wt :: Fr ∧ G = tape :: said :: w :: Gr ∧ 0 ≤ wt ∧ wt ≤ 220 ∧ (0 < wt → 0 ≤ w (wt - 1))) (fun va F G r F' G' => F' = F ∧ G' = G ∧ r = some (zp_t w wt)) := zn_meth (K := zkM) (FT := z_FT) (MT := z_MT) (n := 1) zxp229 (z_ks13 _ (fun _ h => List.mem_cons_of_mem _ h) _ _ _ _ (fun j r h _ => by cases h)) (fun _ _ => zs_KX_p) (by decide +kernel) (fun va F G h => by obtain ⟨rfl, _⟩ := h; rfl) rfl fun good va F G hB hret hvret hP => by
  obtain ⟨rfl, rfl, rfl, h0, h1, h2⟩ := hP
  refine zn_ald hB zd229_0 rfl rfl rfl ?_
  refine zn_getf hB zd229_1 rfl rfl (fun q1 r1 => ?_)
  refine zn_zne hB zd229_4 rfl (fun h4 => ?_) (fun h4 => ?_)
  · have h3 := h2 (by omega)
    refine zn_ald hB zd229_11 rfl rfl rfl ?_
    refine zn_getr hB zd229_12 rfl ?_
    refine zn_ald hB zd229_15 rfl rfl rfl ?_
    refine zn_getf hB zd229_16 rfl rfl (fun q16 r16 => ?_)
    refine zn_con hB zd229_19 rfl ?_
    refine zn_isub hB zd229_20 (by omega) (by omega) ?_
    refine zn_iald hB zd229_21 rfl rfl (by omega) (by omega) (fun q21 r21 => ?_)
    refine zn_con (n := 1048576) hB zd229_22 (by decide +kernel) ?_
    refine zn_idiv hB zd229_24 (by omega) (by omega) ?_
    exact hret _ _ _ _ _ zd229_25 trivial ⟨rfl, rfl, by first | rw [zp_t_ne h4] | (unfold zp_t; rw [if_pos h4])⟩
  · refine zn_con hB zd229_7 rfl ?_
    refine zn_goto hB zd229_8 rfl ?_
    exact hret _ _ _ _ _ zd229_25 trivial ⟨rfl, rfl, by first | rw [zp_t_ne h4] | (unfold zp_t; rw [if_pos h4])⟩
theorem zd224_0 : decode zxm224.2.1 0 = .ok (.aload_n 0, 1) := by decide +kernel
theorem zd224_1 : decode zxm224.2.1 1 = .ok (.getfield 176, 3) := by decide +kernel
theorem zd224_4 : decode zxm224.2.1 4 = .ok (.istore_n 1, 1) := by decide +kernel
theorem zd224_5 : decode zxm224.2.1 5 = .ok (.aload_n 0, 1) := by decide +kernel
theorem zd224_6 : decode zxm224.2.1 6 = .ok (.iconst 0, 1) := by decide +kernel
theorem zd224_7 : decode zxm224.2.1 7 = .ok (.putfield 192, 3) := by decide +kernel
theorem zd224_10 : decode zxm224.2.1 10 = .ok (.aload_n 0, 1) := by decide +kernel
theorem zd224_11 : decode zxm224.2.1 11 = .ok (.invokevirtual 195, 3) := by decide +kernel
theorem zd224_14 : decode zxm224.2.1 14 = .ok (.ifCond .eq 55, 3) := by decide +kernel
theorem zd224_17 : decode zxm224.2.1 17 = .ok (.aload_n 0, 1) := by decide +kernel
theorem zd224_18 : decode zxm224.2.1 18 = .ok (.getfield 176, 3) := by decide +kernel
theorem zd224_21 : decode zxm224.2.1 21 = .ok (.iload_n 1, 1) := by decide +kernel
theorem zd224_22 : decode zxm224.2.1 22 = .ok (.iconst 5, 1) := by decide +kernel
theorem zd224_23 : decode zxm224.2.1 23 = .ok (.iadd, 1) := by decide +kernel
theorem zd224_24 : decode zxm224.2.1 24 = .ok (.if_icmp .ne 13, 3) := by decide +kernel
theorem zd224_27 : decode zxm224.2.1 27 = .ok (.aload_n 0, 1) := by decide +kernel
theorem zd224_28 : decode zxm224.2.1 28 = .ok (.iconst 2, 1) := by decide +kernel
theorem zd224_29 : decode zxm224.2.1 29 = .ok (.aload_n 0, 1) := by decide +kernel
theorem zd224_30 : decode zxm224.2.1 30 = .ok (.getfield 176, 3) := by decide +kernel
theorem zd224_33 : decode zxm224.2.1 33 = .ok (.invokevirtual 189, 3) := by decide +kernel
theorem zd224_36 : decode zxm224.2.1 36 = .ok (.ireturn, 1) := by decide +kernel
theorem zd224_37 : decode zxm224.2.1 37 = .ok (.aload_n 0, 1) := by decide +kernel
theorem zd224_38 : decode zxm224.2.1 38 = .ok (.bipush 10, 2) := by decide +kernel
theorem zd224_40 : decode zxm224.2.1 40 = .ok (.aload_n 0, 1) := by decide +kernel
theorem zd224_41 : decode zxm224.2.1 41 = .ok (.getfield 192, 3) := by decide +kernel
theorem zd224_44 : decode zxm224.2.1 44 = .ok (.imul, 1) := by decide +kernel
theorem zd224_45 : decode zxm224.2.1 45 = .ok (.aload_n 0, 1) := by decide +kernel
theorem zd224_46 : decode zxm224.2.1 46 = .ok (.invokevirtual 182, 3) := by decide +kernel
theorem zd224_49 : decode zxm224.2.1 49 = .ok (.iadd, 1) := by decide +kernel
theorem zd224_50 : decode zxm224.2.1 50 = .ok (.bipush 48, 2) := by decide +kernel
theorem zd224_52 : decode zxm224.2.1 52 = .ok (.isub, 1) := by decide +kernel
theorem zd224_53 : decode zxm224.2.1 53 = .ok (.putfield 192, 3) := by decide +kernel
theorem zd224_56 : decode zxm224.2.1 56 = .ok (.aload_n 0, 1) := by decide +kernel
theorem zd224_57 : decode zxm224.2.1 57 = .ok (.aload_n 0, 1) := by decide +kernel
theorem zd224_58 : decode zxm224.2.1 58 = .ok (.getfield 176, 3) := by decide +kernel
theorem zd224_61 : decode zxm224.2.1 61 = .ok (.iconst 1, 1) := by decide +kernel
theorem zd224_62 : decode zxm224.2.1 62 = .ok (.iadd, 1) := by decide +kernel
theorem zd224_63 : decode zxm224.2.1 63 = .ok (.putfield 176, 3) := by decide +kernel
theorem zd224_66 : decode zxm224.2.1 66 = .ok (.goto (-56), 3) := by decide +kernel
theorem zd224_69 : decode zxm224.2.1 69 = .ok (.iconst 1, 1) := by decide +kernel
theorem zd224_70 : decode zxm224.2.1 70 = .ok (.ireturn, 1) := by decide +kernel
theorem zh224  : zn_OK z_TB z_cl z_KX zyM zxm224 (2, 120) (fun va F G => va = [.inr 0] ∧ F = pl :: len :: fl :: op :: cm :: wt :: nb :: Fr ∧ G = tape :: Gr ∧ 0 ≤ pl ∧ pl ≤ 200 ∧ len ≤ 200 ∧ 48 ≤ zp_h tape pl len ∧ zp_h tape pl len ≤ 57) (fun va F G r F' G' => (r = some 0 ∧ ∃ p1 fl' n1, F' = p1 :: len :: fl' :: op :: cm :: wt :: n1 :: Fr ∧ G' = G) ∨ (r = some 1 ∧ ∃ p1 n1, F' = p1 :: len :: fl :: op :: cm :: wt :: n1 :: Fr ∧ G' = G ∧ pl < p1 ∧ p1 ≤ len ∧ 0 ≤ n1 ∧ n1 ≤ 99999)) := zn_meth (K := zkM) (FT := z_FT) (MT := z_MT) (n := 1) zxp224 (z_ks13 _ (fun _ h => List.mem_cons_of_mem _ h) _ _ _ _ (fun j r h _ => by cases h)) (fun _ _ => zs_KX_p) (by decide +kernel) (fun va F G h => by obtain ⟨rfl, _⟩ := h; rfl) rfl fun good va F G hB hret hvret hP => by
  obtain ⟨rfl, rfl, rfl, h0, h1, h2, h4, h5⟩ := hP
  have key : ∀ (n : Nat) (p1 n1 : Int), len - p1 < n → pl ≤ p1 → p1 ≤ len ∨ p1 = pl → 0 ≤ n1 → (p1 = pl ∧ n1 = 0) ∨ (p1 = pl + 1 ∧ n1 ≤ 9) ∨ (p1 = pl + 2 ∧ n1 ≤ 99) ∨ (p1 = pl + 3 ∧ n1 ≤ 999) ∨ (p1 = pl + 4 ∧ n1 ≤ 9999) ∨ (p1 = pl + 5 ∧ n1 ≤ 99999) → (p1 = pl → 48 ≤ zp_h tape pl len ∧ zp_h tape pl len ≤ 57) → good 10 [.inr 0, .inl pl] [] (p1 :: len :: fl :: op :: cm :: wt :: n1 :: Fr) (tape :: Gr) := by
    intro n
    induction n with
    | zero =>
      intro p1 n1 a1 a2 a3 a4 a5 a6
      exfalso
      rcases a3 with a3 | a3
      · omega
      · have := zp_h_lt (tape := tape) (pl := pl) (len := len) (by have := a6 a3; omega)
        omega
    | succ n ih =>
      intro p1 n1 a1 a2 a3 a4 a5 a6
      refine zn_ald hB zd224_10 rfl rfl rfl ?_
      refine zn_iv0 hB (zh223 (pl := p1) (len := len) (tape := tape)) zd224_11 zxt223 rfl ⟨rfl, rfl, rfl, by omega, by omega⟩ (fun r11 F11 G11 hq11 => ?_)
      obtain ⟨rfl, rfl, hd⟩ := hq11
      rcases hd with ⟨rfl, g1, g2⟩ | ⟨rfl, g1⟩
      · refine zn_zeq hB zd224_14 rfl (fun h14 => ?_) (fun h14 => ?_)
        · exfalso; omega
        · have hlt := zp_h_lt (tape := tape) (pl := p1) (len := len) (by omega)
          refine zn_ald hB zd224_17 rfl rfl rfl ?_
          refine zn_getf hB zd224_18 rfl rfl (fun q18 r18 => ?_)
          refine zn_ild hB zd224_21 rfl rfl ?_
          refine zn_con hB zd224_22 rfl ?_
          refine zn_iadd hB zd224_23 (by omega) (by omega) ?_
          refine zn_cne hB zd224_24 rfl (fun h24 => ?_) (fun h24 => ?_)
          · refine zn_ald hB zd224_37 rfl rfl rfl ?_
            refine zn_con hB zd224_38 rfl ?_
            refine zn_ald hB zd224_40 rfl rfl rfl ?_
            refine zn_getf hB zd224_41 rfl rfl (fun q41 r41 => ?_)
            refine zn_imul hB zd224_44 (by omega) (by omega) ?_
            refine zn_ald hB zd224_45 rfl rfl rfl ?_
            refine zn_iv0 hB (zh217 (pl := p1) (len := len) (tape := tape)) zd224_46 zxt217 rfl ⟨rfl, rfl, rfl, by omega, by omega⟩ (fun r46 F46 G46 hq46 => ?_)
            obtain ⟨rfl, rfl, rfl⟩ := hq46
            refine zn_iadd hB zd224_49 (by omega) (by omega) ?_
            refine zn_con hB zd224_50 rfl ?_
            refine zn_isub hB zd224_52 (by omega) (by omega) ?_
            refine zn_putf hB zd224_53 rfl rfl (fun h => by cases h) rfl ?_
            refine zn_ald hB zd224_56 rfl rfl rfl ?_
            refine zn_ald hB zd224_57 rfl rfl rfl ?_
            refine zn_getf hB zd224_58 rfl rfl (fun q58 r58 => ?_)
            refine zn_con hB zd224_61 rfl ?_
            refine zn_iadd hB zd224_62 (by omega) (by omega) ?_
            refine zn_putf hB zd224_63 rfl rfl (fun h => by cases h) rfl ?_
            refine zn_goto hB zd224_66 rfl ?_
            exact ih (p1 + 1) (10 * n1 + zp_h tape p1 len - 48) (by omega) (by omega) (Or.inl (by omega)) (by omega) (by omega) (fun h => by omega)
          · refine zn_ald hB zd224_27 rfl rfl rfl ?_
            refine zn_con hB zd224_28 rfl ?_
            refine zn_ald hB zd224_29 rfl rfl rfl ?_
            refine zn_getf hB zd224_30 rfl rfl (fun q30 r30 => ?_)
            refine zn_iv2 hB zh219 zd224_33 zxt219 rfl ⟨rfl, rfl⟩ (fun r33 F33 G33 hq33 => ?_)
            obtain ⟨rfl, fl1, rfl, rfl⟩ := hq33
            exact hret _ _ _ _ _ zd224_36 (by constructor <;> decide) (Or.inl ⟨rfl, _, _, _, rfl, rfl⟩)
      · refine zn_zeq hB zd224_14 rfl (fun h14 => ?_) (fun h14 => ?_)
        · have hne : p1 ≠ pl := fun h => by subst h; have := a6 rfl; omega
          refine zn_con hB zd224_69 rfl ?_
          exact hret _ _ _ _ _ zd224_70 (by constructor <;> decide) (Or.inr ⟨rfl, p1, n1, rfl, rfl, by omega, by omega, by omega, by omega⟩)
        · exfalso; omega
  refine zn_ald hB zd224_0 rfl rfl rfl ?_
  refine zn_getf hB zd224_1 rfl rfl (fun q1 r1 => ?_)
  refine zn_ist hB zd224_4 rfl rfl rfl ?_
  refine zn_ald hB zd224_5 rfl rfl rfl ?_
  refine zn_con hB zd224_6 rfl ?_
  refine zn_putf hB zd224_7 rfl rfl (fun h => by cases h) rfl ?_
  exact key ((len - pl).toNat + 1) pl 0 (by omega) (by omega) (Or.inr rfl) (by omega) (by omega) (fun _ => ⟨h4, h5⟩)
theorem zd222_0 : decode zxm222.2.1 0 = .ok (.aload_n 0, 1) := by decide +kernel
theorem zd222_1 : decode zxm222.2.1 1 = .ok (.getfield 203, 3) := by decide +kernel
theorem zd222_4 : decode zxm222.2.1 4 = .ok (.bipush 6, 2) := by decide +kernel
theorem zd222_6 : decode zxm222.2.1 6 = .ok (.if_icmp .ne 13, 3) := by decide +kernel
theorem zd222_9 : decode zxm222.2.1 9 = .ok (.aload_n 0, 1) := by decide +kernel
theorem zd222_10 : decode zxm222.2.1 10 = .ok (.iconst 5, 1) := by decide +kernel
theorem zd222_11 : decode zxm222.2.1 11 = .ok (.aload_n 0, 1) := by decide +kernel
theorem zd222_12 : decode zxm222.2.1 12 = .ok (.getfield 176, 3) := by decide +kernel
theorem zd222_15 : decode zxm222.2.1 15 = .ok (.invokevirtual 189, 3) := by decide +kernel
theorem zd222_18 : decode zxm222.2.1 18 = .ok (.ireturn, 1) := by decide +kernel
theorem zd222_19 : decode zxm222.2.1 19 = .ok (.aload_n 0, 1) := by decide +kernel
theorem zd222_20 : decode zxm222.2.1 20 = .ok (.aload_n 0, 1) := by decide +kernel
theorem zd222_21 : decode zxm222.2.1 21 = .ok (.getfield 203, 3) := by decide +kernel
theorem zd222_24 : decode zxm222.2.1 24 = .ok (.iconst 1, 1) := by decide +kernel
theorem zd222_25 : decode zxm222.2.1 25 = .ok (.iadd, 1) := by decide +kernel
theorem zd222_26 : decode zxm222.2.1 26 = .ok (.putfield 203, 3) := by decide +kernel
theorem zd222_29 : decode zxm222.2.1 29 = .ok (.aload_n 0, 1) := by decide +kernel
theorem zd222_30 : decode zxm222.2.1 30 = .ok (.getfield 26, 3) := by decide +kernel
theorem zd222_33 : decode zxm222.2.1 33 = .ok (.aload_n 0, 1) := by decide +kernel
theorem zd222_34 : decode zxm222.2.1 34 = .ok (.getfield 206, 3) := by decide +kernel
theorem zd222_37 : decode zxm222.2.1 37 = .ok (.ldc 202, 2) := by decide +kernel
theorem zd222_39 : decode zxm222.2.1 39 = .ok (.iload_n 1, 1) := by decide +kernel
theorem zd222_40 : decode zxm222.2.1 40 = .ok (.imul, 1) := by decide +kernel
theorem zd222_41 : decode zxm222.2.1 41 = .ok (.iastore, 1) := by decide +kernel
theorem zd222_42 : decode zxm222.2.1 42 = .ok (.aload_n 0, 1) := by decide +kernel
theorem zd222_43 : decode zxm222.2.1 43 = .ok (.aload_n 0, 1) := by decide +kernel
theorem zd222_44 : decode zxm222.2.1 44 = .ok (.getfield 206, 3) := by decide +kernel
theorem zd222_47 : decode zxm222.2.1 47 = .ok (.iconst 1, 1) := by decide +kernel
theorem zd222_48 : decode zxm222.2.1 48 = .ok (.iadd, 1) := by decide +kernel
theorem zd222_49 : decode zxm222.2.1 49 = .ok (.putfield 206, 3) := by decide +kernel
theorem zd222_52 : decode zxm222.2.1 52 = .ok (.aload_n 0, 1) := by decide +kernel
theorem zd222_53 : decode zxm222.2.1 53 = .ok (.aload_n 0, 1) := by decide +kernel
theorem zd222_54 : decode zxm222.2.1 54 = .ok (.getfield 176, 3) := by decide +kernel
theorem zd222_57 : decode zxm222.2.1 57 = .ok (.iconst 1, 1) := by decide +kernel
theorem zd222_58 : decode zxm222.2.1 58 = .ok (.iadd, 1) := by decide +kernel
theorem zd222_59 : decode zxm222.2.1 59 = .ok (.putfield 176, 3) := by decide +kernel
theorem zd222_62 : decode zxm222.2.1 62 = .ok (.iconst 1, 1) := by decide +kernel
theorem zd222_63 : decode zxm222.2.1 63 = .ok (.ireturn, 1) := by decide +kernel
theorem zh222 {o : Int} : zn_OK z_TB z_cl z_KX zyM zxm222 (1, 60) (fun va F G => va = [.inr 0, .inl o] ∧ F = pl :: len :: fl :: op :: cm :: wt :: Fr ∧ G = tape :: said :: w :: Gr ∧ 0 ≤ o ∧ o ≤ 14 ∧ 0 ≤ wt ∧ wt < 220 ∧ 0 ≤ pl ∧ pl ≤ 220) (fun va F G r F' G' => (r = some 0 ∧ ∃ fl', F' = pl :: len :: fl' :: op :: cm :: wt :: Fr ∧ G' = G) ∨ (r = some 1 ∧ ∃ op', F' = (pl + 1) :: len :: fl :: op' :: cm :: (wt + 1) :: Fr ∧ G' = tape :: said :: zn_up w wt (1048576 * o) :: Gr)) := zn_meth (K := zkM) (FT := z_FT) (MT := z_MT) (n := 2) zxp222 (z_ks13 _ (fun _ h => List.mem_cons_of_mem _ h) _ _ _ _ (fun j r h _ => by cases h)) (fun _ _ => zs_KX_p) (by decide +kernel) (fun va F G h => by obtain ⟨rfl, _⟩ := h; rfl) rfl fun good va F G hB hret hvret hP => by
  obtain ⟨rfl, rfl, rfl, h0, h1, h2, h3, h7, h8⟩ := hP
  refine zn_ald hB zd222_0 rfl rfl rfl ?_
  refine zn_getf hB zd222_1 rfl rfl (fun q1 r1 => ?_)
  refine zn_con hB zd222_4 rfl ?_
  refine zn_cne hB zd222_6 rfl (fun h6 => ?_) (fun h6 => ?_)
  · refine zn_ald hB zd222_19 rfl rfl rfl ?_
    refine zn_ald hB zd222_20 rfl rfl rfl ?_
    refine zn_getf hB zd222_21 rfl rfl (fun q21 r21 => ?_)
    refine zn_con hB zd222_24 rfl ?_
    refine zn_any hB zd222_25 rfl (fun v25 q25 r25 => ?_)
    refine zn_putf hB zd222_26 rfl rfl (fun h => by cases h) rfl ?_
    refine zn_ald hB zd222_29 rfl rfl rfl ?_
    refine zn_getr hB zd222_30 rfl ?_
    refine zn_ald hB zd222_33 rfl rfl rfl ?_
    refine zn_getf hB zd222_34 rfl rfl (fun q34 r34 => ?_)
    refine zn_con (n := 1048576) hB zd222_37 (by decide +kernel) ?_
    refine zn_ild hB zd222_39 rfl rfl ?_
    refine zn_imul hB zd222_40 (by omega) (by omega) ?_
    refine zn_iast hB zd222_41 rfl rfl (by omega) (by omega) ?_
    refine zn_ald hB zd222_42 rfl rfl rfl ?_
    refine zn_ald hB zd222_43 rfl rfl rfl ?_
    refine zn_getf hB zd222_44 rfl rfl (fun q44 r44 => ?_)
    refine zn_con hB zd222_47 rfl ?_
    refine zn_iadd hB zd222_48 (by omega) (by omega) ?_
    refine zn_putf hB zd222_49 rfl rfl (fun h => by cases h) rfl ?_
    refine zn_ald hB zd222_52 rfl rfl rfl ?_
    refine zn_ald hB zd222_53 rfl rfl rfl ?_
    refine zn_getf hB zd222_54 rfl rfl (fun q54 r54 => ?_)
    refine zn_con hB zd222_57 rfl ?_
    refine zn_iadd hB zd222_58 (by omega) (by omega) ?_
    refine zn_putf hB zd222_59 rfl rfl (fun h => by cases h) rfl ?_
    refine zn_con hB zd222_62 rfl ?_
    exact hret _ _ _ _ _ zd222_63 (by constructor <;> decide) (Or.inr ⟨rfl, _, rfl, rfl⟩)
  · refine zn_ald hB zd222_9 rfl rfl rfl ?_
    refine zn_con hB zd222_10 rfl ?_
    refine zn_ald hB zd222_11 rfl rfl rfl ?_
    refine zn_getf hB zd222_12 rfl rfl (fun q12 r12 => ?_)
    refine zn_iv2 hB zh219 zd222_15 zxt219 rfl ⟨rfl, rfl⟩ (fun r15 F15 G15 hq15 => ?_)
    obtain ⟨rfl, fl1, rfl, rfl⟩ := hq15
    exact hret _ _ _ _ _ zd222_18 (by constructor <;> decide) (Or.inl ⟨rfl, _, rfl, rfl⟩)
theorem zd230_0 : decode zxm230.2.1 0 = .ok (.iload_n 1, 1) := by decide +kernel
theorem zd230_1 : decode zxm230.2.1 1 = .ok (.istore_n 2, 1) := by decide +kernel
theorem zd230_2 : decode zxm230.2.1 2 = .ok (.iload_n 2, 1) := by decide +kernel
theorem zd230_3 : decode zxm230.2.1 3 = .ok (.aload_n 0, 1) := by decide +kernel
theorem zd230_4 : decode zxm230.2.1 4 = .ok (.getfield 206, 3) := by decide +kernel
theorem zd230_7 : decode zxm230.2.1 7 = .ok (.if_icmp .ge 25, 3) := by decide +kernel
theorem zd230_10 : decode zxm230.2.1 10 = .ok (.aload_n 0, 1) := by decide +kernel
theorem zd230_11 : decode zxm230.2.1 11 = .ok (.getfield 26, 3) := by decide +kernel
theorem zd230_14 : decode zxm230.2.1 14 = .ok (.iload_n 2, 1) := by decide +kernel
theorem zd230_15 : decode zxm230.2.1 15 = .ok (.iaload, 1) := by decide +kernel
theorem zd230_16 : decode zxm230.2.1 16 = .ok (.ldc 202, 2) := by decide +kernel
theorem zd230_18 : decode zxm230.2.1 18 = .ok (.idiv, 1) := by decide +kernel
theorem zd230_19 : decode zxm230.2.1 19 = .ok (.bipush 14, 2) := by decide +kernel
theorem zd230_21 : decode zxm230.2.1 21 = .ok (.if_icmp .ne 5, 3) := by decide +kernel
theorem zd230_24 : decode zxm230.2.1 24 = .ok (.iconst 1, 1) := by decide +kernel
theorem zd230_25 : decode zxm230.2.1 25 = .ok (.ireturn, 1) := by decide +kernel
theorem zd230_26 : decode zxm230.2.1 26 = .ok (.iinc 2 1, 3) := by decide +kernel
theorem zd230_29 : decode zxm230.2.1 29 = .ok (.goto (-27), 3) := by decide +kernel
theorem zd230_32 : decode zxm230.2.1 32 = .ok (.iconst 0, 1) := by decide +kernel
theorem zd230_33 : decode zxm230.2.1 33 = .ok (.ireturn, 1) := by decide +kernel
theorem zh230 {base : Int} : zn_OK z_TB z_cl z_KX zyM zxm230 (0, 0) (fun va F G => va = [.inr 0, .inl base] ∧ F = pl :: len :: fl :: op :: cm :: wt :: Fr ∧ G = tape :: said :: w :: Gr ∧ 0 ≤ base ∧ wt ≤ 220 ∧ ∀ j, base ≤ j → j < wt → 0 ≤ w j) (fun va F G r F' G' => F' = F ∧ G' = G ∧ ((r = some 1 ∧ ∃ j, base ≤ j ∧ j < wt ∧ w j / 1048576 = 14) ∨ (r = some 0 ∧ ∀ j, base ≤ j → j < wt → w j / 1048576 ≠ 14))) := zn_meth (K := zkM) (FT := z_FT) (MT := z_MT) (n := 2) zxp230 (z_ks13 _ (fun _ h => List.mem_cons_of_mem _ h) _ _ _ _ (fun j r h _ => by cases h)) (fun _ _ => zs_KX_p) (by decide +kernel) (fun va F G h => by obtain ⟨rfl, _⟩ := h; rfl) rfl fun good va F G hB hret hvret hP => by
  obtain ⟨rfl, rfl, rfl, h0, h1, h2⟩ := hP
  have key : ∀ (n : Nat) (k : Int) (x : zNV), wt - k < n → base ≤ k → (∀ j, base ≤ j → j < k → w j / 1048576 ≠ 14) → good 2 [.inr 0, .inl base, .inl k] [] (pl :: len :: fl :: op :: cm :: wt :: Fr) (tape :: said :: w :: Gr) := by
    intro n
    induction n with
    | zero =>
      intro k x a1 a2 a3
      refine zn_ild hB zd230_2 rfl rfl ?_
      refine zn_ald hB zd230_3 rfl rfl rfl ?_
      refine zn_getf hB zd230_4 rfl rfl (fun q4 r4 => ?_)
      refine zn_cge hB zd230_7 rfl (fun h7 => ?_) (fun h7 => ?_)
      · refine zn_con hB zd230_32 rfl ?_
        refine hret _ _ _ _ _ zd230_33 (by constructor <;> decide) ⟨rfl, rfl, Or.inr ⟨rfl, fun j j1 j2 => ?_⟩⟩
        exact a3 j j1 (by omega)
      · exfalso; omega
    | succ n ih =>
      intro k x a1 a2 a3
      refine zn_ild hB zd230_2 rfl rfl ?_
      refine zn_ald hB zd230_3 rfl rfl rfl ?_
      refine zn_getf hB zd230_4 rfl rfl (fun q4 r4 => ?_)
      refine zn_cge hB zd230_7 rfl (fun h7 => ?_) (fun h7 => ?_)
      · refine zn_con hB zd230_32 rfl ?_
        refine hret _ _ _ _ _ zd230_33 (by constructor <;> decide) ⟨rfl, rfl, Or.inr ⟨rfl, fun j j1 j2 => ?_⟩⟩
        exact a3 j j1 (by omega)
      · have hk := h2 k (by omega) (by omega)
        refine zn_ald hB zd230_10 rfl rfl rfl ?_
        refine zn_getr hB zd230_11 rfl ?_
        refine zn_ild hB zd230_14 rfl rfl ?_
        refine zn_iald hB zd230_15 rfl rfl (by omega) (by omega) (fun q15 r15 => ?_)
        refine zn_con (n := 1048576) hB zd230_16 (by decide +kernel) ?_
        refine zn_idiv hB zd230_18 (by omega) (by omega) ?_
        refine zn_con hB zd230_19 rfl ?_
        refine zn_cne hB zd230_21 rfl (fun h21 => ?_) (fun h21 => ?_)
        · refine zn_iinc hB zd230_26 rfl rfl (by omega) (by omega) ?_
          refine zn_goto hB zd230_29 rfl ?_
          refine ih (k + 1) x (by omega) (by omega) (fun j j1 j2 => ?_)
          by_cases e : j = k
          · rw [e]; exact h21
          · exact a3 j j1 (by omega)
        · refine zn_con hB zd230_24 rfl ?_
          exact hret _ _ _ _ _ zd230_25 (by constructor <;> decide) ⟨rfl, rfl, Or.inl ⟨rfl, k, by omega, by omega, h21⟩⟩
  refine zn_ild hB zd230_0 rfl rfl ?_
  refine zn_ist hB zd230_1 rfl rfl rfl ?_
  exact key ((wt - base).toNat + 1) base (.inl 0) (by omega) (by omega) (fun j j1 j2 => by omega)
end ZREAD1
