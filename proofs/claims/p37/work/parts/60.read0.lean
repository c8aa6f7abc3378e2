/-! The reading of laws by the reference: the layout; its smallest methods. -/
abbrev zyM : zNL := (15, [(0, 12)], [(0, 12, 5, 0), (0, 12, 6, 1), (0, 12, 7, 2), (0, 12, 8, 3), (0, 12, 9, 4), (0, 12, 10, 5), (0, 12, 12, 6), (0, 12, 11, 7), (0, 12, 4, 8), (0, 12, 13, 9)], [(0, 12, 3, 1), (0, 12, 14, 2), (0, 12, 15, 3), (0, 12, 16, 4), (0, 12, 17, 5), (0, 12, 18, 6), (0, 12, 19, 7), (0, 12, 20, 8), (0, 12, 21, 9), (0, 12, 22, 10), (0, 12, 23, 11), (0, 12, 24, 12), (0, 12, 25, 13), (0, 12, 26, 14)], [(1, 1, 220, 0), (2, 0, 220, 1), (3, 0, 220, 2), (4, 0, 14, 3), (5, 0, 14, 4), (6, 0, 14, 5), (7, 0, 14, 6), (8, 0, 220, 7), (9, 0, 14, 8), (10, 0, 14, 9), (11, 0, 14, 10), (12, 0, 14, 11), (13, 0, 220, 12), (14, 0, 13, 13)])
abbrev zkM : zK := (z_KF13, z_KC13, z_KL13, z_KT13, [], [], [], none)
/-- the byte that comes next -/
def zp_h (tape : Int → Int) (pl len : Int) : Int := if pl < len then (Int32.ofInt (tape pl) &&& 255).toInt else -1
theorem zp_h_eq {tape : Int → Int} {pl len : Int} {u v : Int32} (hu : u.toInt = tape pl) (hv : v.toInt = 255) (h : pl < len) : (u &&& v).toInt = zp_h tape pl len := by
  have e1 : Int32.ofInt (tape pl) = u := by rw [← hu]; exact Int32.ofInt_toInt u
  have e2 : v = 255 := Int32.toInt_inj.mp (by rw [hv]; rfl)
  unfold zp_h
  rw [if_pos h, e1, e2]
theorem zp_h_lt {tape : Int → Int} {pl len : Int} (h : 0 ≤ zp_h tape pl len) : pl < len := by
  unfold zp_h at h
  split at h
  · assumption
  · omega
theorem zp_h_no {tape : Int → Int} {pl len : Int} (h : ¬ pl < len) : zp_h tape pl len = -1 := if_neg h
/-- the top of what waits -/
def zp_t (w : Int → Int) (wt : Int) : Int := if wt = 0 then -1 else w (wt - 1) / 1048576
theorem zd217_0 : decode zxm217.2.1 0 = .ok (.aload_n 0, 1) := by decide +kernel
theorem zd217_1 : decode zxm217.2.1 1 = .ok (.getfield 176, 3) := by decide +kernel
theorem zd217_4 : decode zxm217.2.1 4 = .ok (.aload_n 0, 1) := by decide +kernel
theorem zd217_5 : decode zxm217.2.1 5 = .ok (.getfield 179, 3) := by decide +kernel
theorem zd217_8 : decode zxm217.2.1 8 = .ok (.if_icmp .ge 19, 3) := by decide +kernel
theorem zd217_11 : decode zxm217.2.1 11 = .ok (.aload_n 0, 1) := by decide +kernel
theorem zd217_12 : decode zxm217.2.1 12 = .ok (.getfield 19, 3) := by decide +kernel
theorem zd217_15 : decode zxm217.2.1 15 = .ok (.aload_n 0, 1) := by decide +kernel
theorem zd217_16 : decode zxm217.2.1 16 = .ok (.getfield 176, 3) := by decide +kernel
theorem zd217_19 : decode zxm217.2.1 19 = .ok (.baload, 1) := by decide +kernel
theorem zd217_20 : decode zxm217.2.1 20 = .ok (.sipush 255, 3) := by decide +kernel
theorem zd217_23 : decode zxm217.2.1 23 = .ok (.iand, 1) := by decide +kernel
theorem zd217_24 : decode zxm217.2.1 24 = .ok (.goto 4, 3) := by decide +kernel
theorem zd217_27 : decode zxm217.2.1 27 = .ok (.iconst (-1), 1) := by decide +kernel
theorem zd217_28 : decode zxm217.2.1 28 = .ok (.ireturn, 1) := by decide +kernel
theorem zh217 {pl len : Int} {tape : Int → Int} {Fr : List Int} {Gr : List (Int → Int)} : zn_OK z_TB z_cl z_KX zyM zxm217 (0, 0) (fun va F G => va = [.inr 0] ∧ F = pl :: len :: Fr ∧ G = tape :: Gr ∧ 0 ≤ pl ∧ (pl < len → pl < 220)) (fun va F G r F' G' => F' = F ∧ G' = G ∧ r = some (zp_h tape pl len)) := zn_meth (K := zkM) (FT := z_FT) (MT := z_MT) (n := 1) zxp217 (z_ks13 _ (fun _ h => List.mem_cons_of_mem _ h) _ _ _ _ (fun j r h _ => by cases h)) (fun _ _ => zs_KX_p) (by decide +kernel) (fun va F G h => by obtain ⟨rfl, _⟩ := h; rfl) rfl fun good va F G hB hret hvret hP => by
  obtain ⟨rfl, rfl, rfl, h0, h1⟩ := hP
  refine zn_ald hB zd217_0 rfl rfl rfl ?_
  refine zn_getf hB zd217_1 rfl rfl (fun q1 r1 => ?_)
  refine zn_ald hB zd217_4 rfl rfl rfl ?_
  refine zn_getf hB zd217_5 rfl rfl (fun q5 r5 => ?_)
  refine zn_cge hB zd217_8 rfl (fun h8 => ?_) (fun h8 => ?_)
  · refine zn_con hB zd217_27 rfl ?_
    exact hret _ _ _ _ _ zd217_28 trivial ⟨rfl, rfl, by first | rw [zp_h_no (by omega)] | rw [zp_h_eq q23 r23 h8]⟩
  · refine zn_ald hB zd217_11 rfl rfl rfl ?_
    refine zn_getr hB zd217_12 rfl ?_
    refine zn_ald hB zd217_15 rfl rfl rfl ?_
    refine zn_getf hB zd217_16 rfl rfl (fun q16 r16 => ?_)
    refine zn_bald hB zd217_19 rfl rfl (by omega) (by omega) (fun q19 r19 => ?_)
    refine zn_con hB zd217_20 rfl ?_
    refine zn_bin hB zd217_23 rfl (fun u23 v23 q23 r23 => ?_)
    refine zn_goto hB zd217_24 rfl ?_
    exact hret _ _ _ _ _ zd217_28 trivial ⟨rfl, rfl, by first | rw [zp_h_no (by omega)] | rw [zp_h_eq q23 r23 h8]⟩
theorem zd223_0 : decode zxm223.2.1 0 = .ok (.aload_n 0, 1) := by decide +kernel
theorem zd223_1 : decode zxm223.2.1 1 = .ok (.invokevirtual 182, 3) := by decide +kernel
theorem zd223_4 : decode zxm223.2.1 4 = .ok (.bipush 48, 2) := by decide +kernel
theorem zd223_6 : decode zxm223.2.1 6 = .ok (.if_icmp .lt 16, 3) := by decide +kernel
theorem zd223_9 : decode zxm223.2.1 9 = .ok (.aload_n 0, 1) := by decide +kernel
theorem zd223_10 : decode zxm223.2.1 10 = .ok (.invokevirtual 182, 3) := by decide +kernel
theorem zd223_13 : decode zxm223.2.1 13 = .ok (.bipush 57, 2) := by decide +kernel
theorem zd223_15 : decode zxm223.2.1 15 = .ok (.if_icmp .gt 7, 3) := by decide +kernel
theorem zd223_18 : decode zxm223.2.1 18 = .ok (.iconst 1, 1) := by decide +kernel
theorem zd223_19 : decode zxm223.2.1 19 = .ok (.goto 4, 3) := by decide +kernel
theorem zd223_22 : decode zxm223.2.1 22 = .ok (.iconst 0, 1) := by decide +kernel
theorem zd223_23 : decode zxm223.2.1 23 = .ok (.ireturn, 1) := by decide +kernel
theorem zh223 {pl len : Int} {tape : Int → Int} {Fr : List Int} {Gr : List (Int → Int)} : zn_OK z_TB z_cl z_KX zyM zxm223 (1, 60) (fun va F G => va = [.inr 0] ∧ F = pl :: len :: Fr ∧ G = tape :: Gr ∧ 0 ≤ pl ∧ (pl < len → pl < 220)) (fun va F G r F' G' => F' = F ∧ G' = G ∧ (r = some 1 ∧ 48 ≤ zp_h tape pl len ∧ zp_h tape pl len ≤ 57 ∨ r = some 0 ∧ (zp_h tape pl len < 48 ∨ 57 < zp_h tape pl len))) := zn_meth (K := zkM) (FT := z_FT) (MT := z_MT) (n := 1) zxp223 (z_ks13 _ (fun _ h => List.mem_cons_of_mem _ h) _ _ _ _ (fun j r h _ => by cases h)) (fun _ _ => zs_KX_p) (by decide +kernel) (fun va F G h => by obtain ⟨rfl, _⟩ := h; rfl) rfl fun good va F G hB hret hvret hP => by
  obtain ⟨rfl, rfl, rfl, h0, h1⟩ := hP
  refine zn_ald hB zd223_0 rfl rfl rfl ?_
  refine zn_iv0 hB (zh217 (pl := pl) (len := len) (tape := tape) (Fr := Fr) (Gr := Gr)) zd223_1 zxt217 rfl ⟨rfl, rfl, rfl, h0, h1⟩ (fun r1 F1 G1 hq1 => ?_)
  obtain ⟨rfl, rfl, rfl⟩ := hq1
  refine zn_con hB zd223_4 rfl ?_
  refine zn_clt hB zd223_6 rfl (fun h6 => ?_) (fun h6 => ?_)
  · refine zn_con hB zd223_22 rfl ?_
    refine hret _ _ _ _ _ zd223_23 (by constructor <;> decide) ⟨rfl, rfl, ?_⟩
    first | exact Or.inl ⟨rfl, by omega, by omega⟩ | exact Or.inr ⟨rfl, by omega⟩
  · refine zn_ald hB zd223_9 rfl rfl rfl ?_
    refine zn_iv0 hB (zh217 (pl := pl) (len := len) (tape := tape) (Fr := Fr) (Gr := Gr)) zd223_10 zxt217 rfl ⟨rfl, rfl, rfl, h0, h1⟩ (fun r10 F10 G10 hq10 => ?_)
    obtain ⟨rfl, rfl, rfl⟩ := hq10
    refine zn_con hB zd223_13 rfl ?_
    refine zn_cgt hB zd223_15 rfl (fun h15 => ?_) (fun h15 => ?_)
    · refine zn_con hB zd223_22 rfl ?_
      refine hret _ _ _ _ _ zd223_23 (by constructor <;> decide) ⟨rfl, rfl, ?_⟩
      first | exact Or.inl ⟨rfl, by omega, by omega⟩ | exact Or.inr ⟨rfl, by omega⟩
    · refine zn_con hB zd223_18 rfl ?_
      refine zn_goto hB zd223_19 rfl ?_
      refine hret _ _ _ _ _ zd223_23 (by constructor <;> decide) ⟨rfl, rfl, ?_⟩
      first | exact Or.inl ⟨rfl, by omega, by omega⟩ | exact Or.inr ⟨rfl, by omega⟩
theorem zd219_0 : decode zxm219.2.1 0 = .ok (.aload_n 0, 1) := by decide +kernel
theorem zd219_1 : decode zxm219.2.1 1 = .ok (.sipush (-1000), 3) := by decide +kernel
theorem zd219_4 : decode zxm219.2.1 4 = .ok (.iload_n 1, 1) := by decide +kernel
theorem zd219_5 : decode zxm219.2.1 5 = .ok (.imul, 1) := by decide +kernel
theorem zd219_6 : decode zxm219.2.1 6 = .ok (.iload_n 2, 1) := by decide +kernel
theorem zd219_7 : decode zxm219.2.1 7 = .ok (.isub, 1) := by decide +kernel
theorem zd219_8 : decode zxm219.2.1 8 = .ok (.putfield 186, 3) := by decide +kernel
theorem zd219_11 : decode zxm219.2.1 11 = .ok (.iconst 0, 1) := by decide +kernel
theorem zd219_12 : decode zxm219.2.1 12 = .ok (.ireturn, 1) := by decide +kernel
theorem zh219 {what whr pl len fl : Int} {Fr : List Int} : zn_OK z_TB z_cl z_KX zyM zxm219 (0, 0) (fun va F G => va = [.inr 0, .inl what, .inl whr] ∧ F = pl :: len :: fl :: Fr) (fun va F G r F' G' => r = some 0 ∧ ∃ fl', F' = pl :: len :: fl' :: Fr ∧ G' = G) := zn_meth (K := zkM) (FT := z_FT) (MT := z_MT) (n := 3) zxp219 (z_ks13 _ (fun _ h => List.mem_cons_of_mem _ h) _ _ _ _ (fun j r h _ => by cases h)) (fun _ _ => zs_KX_p) (by decide +kernel) (fun va F G h => by obtain ⟨rfl, _⟩ := h; rfl) rfl fun good va F G hB hret hvret hP => by
  obtain ⟨rfl, rfl⟩ := hP
  refine zn_ald hB zd219_0 rfl rfl rfl ?_
  refine zn_con hB zd219_1 rfl ?_
  refine zn_ild hB zd219_4 rfl rfl ?_
  refine zn_any hB zd219_5 rfl (fun v5 q5 r5 => ?_)
  refine zn_ild hB zd219_6 rfl rfl ?_
  refine zn_any hB zd219_7 rfl (fun v7 q7 r7 => ?_)
  refine zn_putf hB zd219_8 rfl rfl (fun h => by cases h) rfl ?_
  refine zn_con hB zd219_11 rfl ?_
  exact hret _ _ _ _ _ zd219_12 (by constructor <;> decide) ⟨rfl, _, rfl, rfl⟩
theorem zd218_0 : decode zxm218.2.1 0 = .ok (.iload_n 0, 1) := by decide +kernel
theorem zd218_1 : decode zxm218.2.1 1 = .ok (.bipush 118, 2) := by decide +kernel
theorem zd218_3 : decode zxm218.2.1 3 = .ok (.if_icmp .eq 27, 3) := by decide +kernel
theorem zd218_6 : decode zxm218.2.1 6 = .ok (.iload_n 0, 1) := by decide +kernel
theorem zd218_7 : decode zxm218.2.1 7 = .ok (.bipush 106, 2) := by decide +kernel
theorem zd218_9 : decode zxm218.2.1 9 = .ok (.if_icmp .eq 21, 3) := by decide +kernel
theorem zd218_12 : decode zxm218.2.1 12 = .ok (.iload_n 0, 1) := by decide +kernel
theorem zd218_13 : decode zxm218.2.1 13 = .ok (.bipush 119, 2) := by decide +kernel
theorem zd218_15 : decode zxm218.2.1 15 = .ok (.if_icmp .eq 15, 3) := by decide +kernel
theorem zd218_18 : decode zxm218.2.1 18 = .ok (.iload_n 0, 1) := by decide +kernel
theorem zd218_19 : decode zxm218.2.1 19 = .ok (.bipush 103, 2) := by decide +kernel
theorem zd218_21 : decode zxm218.2.1 21 = .ok (.if_icmp .eq 9, 3) := by decide +kernel
theorem zd218_24 : decode zxm218.2.1 24 = .ok (.iload_n 0, 1) := by decide +kernel
theorem zd218_25 : decode zxm218.2.1 25 = .ok (.bipush 113, 2) := by decide +kernel
theorem zd218_27 : decode zxm218.2.1 27 = .ok (.if_icmp .ne 7, 3) := by decide +kernel
theorem zd218_30 : decode zxm218.2.1 30 = .ok (.iconst 1, 1) := by decide +kernel
theorem zd218_31 : decode zxm218.2.1 31 = .ok (.goto 4, 3) := by decide +kernel
theorem zd218_34 : decode zxm218.2.1 34 = .ok (.iconst 0, 1) := by decide +kernel
theorem zd218_35 : decode zxm218.2.1 35 = .ok (.ireturn, 1) := by decide +kernel
theorem zh218 {c : Int} : zn_OK z_TB z_cl z_KX zyM zxm218 (0, 0) (fun va F G => va = [.inl c]) (fun va F G r F' G' => F' = F ∧ G' = G ∧ (r = some 1 ∧ 0 ≤ c ∨ r = some 0)) := zn_meth (K := zkM) (FT := z_FT) (MT := z_MT) (n := 1) zxp218 (z_ks13 _ (fun _ h => List.mem_cons_of_mem _ h) _ _ _ _ (fun j r h _ => by cases h)) (fun _ _ => zs_KX_p) (by decide +kernel) (fun va F G h => by obtain ⟨rfl, _⟩ := h; rfl) rfl fun good va F G hB hret hvret hP => by
  subst hP
  refine zn_ild hB zd218_0 rfl rfl ?_
  refine zn_con hB zd218_1 rfl ?_
  refine zn_ceq hB zd218_3 rfl (fun h3 => ?_) (fun h3 => ?_)
  · refine zn_con hB zd218_30 rfl ?_
    refine zn_goto hB zd218_31 rfl ?_
    refine hret _ _ _ _ _ zd218_35 (by constructor <;> decide) ⟨rfl, rfl, ?_⟩
    first | exact Or.inl ⟨rfl, by omega⟩ | exact Or.inr rfl
  · refine zn_ild hB zd218_6 rfl rfl ?_
    refine zn_con hB zd218_7 rfl ?_
    refine zn_ceq hB zd218_9 rfl (fun h9 => ?_) (fun h9 => ?_)
    · refine zn_con hB zd218_30 rfl ?_
      refine zn_goto hB zd218_31 rfl ?_
      refine hret _ _ _ _ _ zd218_35 (by constructor <;> decide) ⟨rfl, rfl, ?_⟩
      first | exact Or.inl ⟨rfl, by omega⟩ | exact Or.inr rfl
    · refine zn_ild hB zd218_12 rfl rfl ?_
      refine zn_con hB zd218_13 rfl ?_
      refine zn_ceq hB zd218_15 rfl (fun h15 => ?_) (fun h15 => ?_)
      · refine zn_con hB zd218_30 rfl ?_
        refine zn_goto hB zd218_31 rfl ?_
        refine hret _ _ _ _ _ zd218_35 (by constructor <;> decide) ⟨rfl, rfl, ?_⟩
        first | exact Or.inl ⟨rfl, by omega⟩ | exact Or.inr rfl
      · refine zn_ild hB zd218_18 rfl rfl ?_
        refine zn_con hB zd218_19 rfl ?_
        refine zn_ceq hB zd218_21 rfl (fun h21 => ?_) (fun h21 => ?_)
        · refine zn_con hB zd218_30 rfl ?_
          refine zn_goto hB zd218_31 rfl ?_
          refine hret _ _ _ _ _ zd218_35 (by constructor <;> decide) ⟨rfl, rfl, ?_⟩
          first | exact Or.inl ⟨rfl, by omega⟩ | exact Or.inr rfl
        · refine zn_ild hB zd218_24 rfl rfl ?_
          refine zn_con hB zd218_25 rfl ?_
          refine zn_cne hB zd218_27 rfl (fun h27 => ?_) (fun h27 => ?_)
          · refine zn_con hB zd218_34 rfl ?_
            refine hret _ _ _ _ _ zd218_35 (by constructor <;> decide) ⟨rfl, rfl, ?_⟩
            first | exact Or.inl ⟨rfl, by omega⟩ | exact Or.inr rfl
          · refine zn_con hB zd218_30 rfl ?_
            refine zn_goto hB zd218_31 rfl ?_
            refine hret _ _ _ _ _ zd218_35 (by constructor <;> decide) ⟨rfl, rfl, ?_⟩
            first | exact Or.inl ⟨rfl, by omega⟩ | exact Or.inr rfl
theorem zd226_0 : decode zxm226.2.1 0 = .ok (.iload_n 0, 1) := by decide +kernel
theorem zd226_1 : decode zxm226.2.1 1 = .ok (.tableswitch 140 99 121 #[117, 137, 128, 140, 140, 107, 111, 140, 119, 140, 113, 122, 140, 140, 140, 115, 125, 140, 109, 140, 140, 131, 134], 107) := by decide +kernel
theorem zd226_108 : decode zxm226.2.1 108 = .ok (.iconst 0, 1) := by decide +kernel
theorem zd226_109 : decode zxm226.2.1 109 = .ok (.ireturn, 1) := by decide +kernel
theorem zd226_110 : decode zxm226.2.1 110 = .ok (.iconst 1, 1) := by decide +kernel
theorem zd226_111 : decode zxm226.2.1 111 = .ok (.ireturn, 1) := by decide +kernel
theorem zd226_112 : decode zxm226.2.1 112 = .ok (.iconst 2, 1) := by decide +kernel
theorem zd226_113 : decode zxm226.2.1 113 = .ok (.ireturn, 1) := by decide +kernel
theorem zd226_114 : decode zxm226.2.1 114 = .ok (.iconst 3, 1) := by decide +kernel
theorem zd226_115 : decode zxm226.2.1 115 = .ok (.ireturn, 1) := by decide +kernel
theorem zd226_116 : decode zxm226.2.1 116 = .ok (.iconst 4, 1) := by decide +kernel
theorem zd226_117 : decode zxm226.2.1 117 = .ok (.ireturn, 1) := by decide +kernel
theorem zd226_118 : decode zxm226.2.1 118 = .ok (.iconst 5, 1) := by decide +kernel
theorem zd226_119 : decode zxm226.2.1 119 = .ok (.ireturn, 1) := by decide +kernel
theorem zd226_120 : decode zxm226.2.1 120 = .ok (.bipush 6, 2) := by decide +kernel
theorem zd226_122 : decode zxm226.2.1 122 = .ok (.ireturn, 1) := by decide +kernel
theorem zd226_123 : decode zxm226.2.1 123 = .ok (.bipush 7, 2) := by decide +kernel
theorem zd226_125 : decode zxm226.2.1 125 = .ok (.ireturn, 1) := by decide +kernel
theorem zd226_126 : decode zxm226.2.1 126 = .ok (.bipush 8, 2) := by decide +kernel
theorem zd226_128 : decode zxm226.2.1 128 = .ok (.ireturn, 1) := by decide +kernel
theorem zd226_129 : decode zxm226.2.1 129 = .ok (.bipush 9, 2) := by decide +kernel
theorem zd226_131 : decode zxm226.2.1 131 = .ok (.ireturn, 1) := by decide +kernel
theorem zd226_132 : decode zxm226.2.1 132 = .ok (.bipush 10, 2) := by decide +kernel
theorem zd226_134 : decode zxm226.2.1 134 = .ok (.ireturn, 1) := by decide +kernel
theorem zd226_135 : decode zxm226.2.1 135 = .ok (.bipush 11, 2) := by decide +kernel
theorem zd226_137 : decode zxm226.2.1 137 = .ok (.ireturn, 1) := by decide +kernel
theorem zd226_138 : decode zxm226.2.1 138 = .ok (.bipush 12, 2) := by decide +kernel
theorem zd226_140 : decode zxm226.2.1 140 = .ok (.ireturn, 1) := by decide +kernel
theorem zd226_141 : decode zxm226.2.1 141 = .ok (.iconst (-1), 1) := by decide +kernel
theorem zd226_142 : decode zxm226.2.1 142 = .ok (.ireturn, 1) := by decide +kernel
theorem zh226 {c : Int} : zn_OK z_TB z_cl z_KX zyM zxm226 (0, 0) (fun va F G => va = [.inl c]) (fun va F G r F' G' => F' = F ∧ G' = G ∧ ∃ v, r = some v ∧ -1 ≤ v ∧ v ≤ 12 ∧ (0 ≤ v → 0 ≤ c)) := zn_meth (K := zkM) (FT := z_FT) (MT := z_MT) (n := 1) zxp226 (z_ks13 _ (fun _ h => List.mem_cons_of_mem _ h) _ _ _ _ (fun j r h _ => by cases h)) (fun _ _ => zs_KX_p) (by decide +kernel) (fun va F G h => by obtain ⟨rfl, _⟩ := h; rfl) rfl fun good va F G hB hret hvret hP => by
  subst hP
  refine zn_ild hB zd226_0 rfl rfl ?_
  refine zn_tsw hB zd226_1 rfl ?_
  refine ⟨fun s1 => ⟨_, rfl, ?_⟩, fun s1 => ?_⟩
  · refine zn_con hB zd226_118 rfl ?_
    exact hret _ _ _ _ _ zd226_119 trivial ⟨rfl, rfl, _, rfl, by omega, by omega, by omega⟩
  refine ⟨fun s1 => ⟨_, rfl, ?_⟩, fun s1 => ?_⟩
  · refine zn_con hB zd226_138 rfl ?_
    exact hret _ _ _ _ _ zd226_140 trivial ⟨rfl, rfl, _, rfl, by omega, by omega, by omega⟩
  refine ⟨fun s1 => ⟨_, rfl, ?_⟩, fun s1 => ?_⟩
  · refine zn_con hB zd226_129 rfl ?_
    exact hret _ _ _ _ _ zd226_131 trivial ⟨rfl, rfl, _, rfl, by omega, by omega, by omega⟩
  refine ⟨fun s1 => ⟨_, rfl, ?_⟩, fun s1 => ?_⟩
  · refine zn_con hB zd226_141 rfl ?_
    exact hret _ _ _ _ _ zd226_142 trivial ⟨rfl, rfl, _, rfl, by omega, by omega, by omega⟩
  refine ⟨fun s1 => ⟨_, rfl, ?_⟩, fun s1 => ?_⟩
  · refine zn_con hB zd226_141 rfl ?_
    exact hret _ _ _ _ _ zd226_142 trivial ⟨rfl, rfl, _, rfl, by omega, by omega, by omega⟩
  refine ⟨fun s1 => ⟨_, rfl, ?_⟩, fun s1 => ?_⟩
  · refine zn_con hB zd226_108 rfl ?_
    exact hret _ _ _ _ _ zd226_109 trivial ⟨rfl, rfl, _, rfl, by omega, by omega, by omega⟩
  refine ⟨fun s1 => ⟨_, rfl, ?_⟩, fun s1 => ?_⟩
  · refine zn_con hB zd226_112 rfl ?_
    exact hret _ _ _ _ _ zd226_113 trivial ⟨rfl, rfl, _, rfl, by omega, by omega, by omega⟩
  refine ⟨fun s1 => ⟨_, rfl, ?_⟩, fun s1 => ?_⟩
  · refine zn_con hB zd226_141 rfl ?_
    exact hret _ _ _ _ _ zd226_142 trivial ⟨rfl, rfl, _, rfl, by omega, by omega, by omega⟩
  refine ⟨fun s1 => ⟨_, rfl, ?_⟩, fun s1 => ?_⟩
  · refine zn_con hB zd226_120 rfl ?_
    exact hret _ _ _ _ _ zd226_122 trivial ⟨rfl, rfl, _, rfl, by omega, by omega, by omega⟩
  refine ⟨fun s1 => ⟨_, rfl, ?_⟩, fun s1 => ?_⟩
  · refine zn_con hB zd226_141 rfl ?_
    exact hret _ _ _ _ _ zd226_142 trivial ⟨rfl, rfl, _, rfl, by omega, by omega, by omega⟩
  refine ⟨fun s1 => ⟨_, rfl, ?_⟩, fun s1 => ?_⟩
  · refine zn_con hB zd226_114 rfl ?_
    exact hret _ _ _ _ _ zd226_115 trivial ⟨rfl, rfl, _, rfl, by omega, by omega, by omega⟩
  refine ⟨fun s1 => ⟨_, rfl, ?_⟩, fun s1 => ?_⟩
  · refine zn_con hB zd226_123 rfl ?_
    exact hret _ _ _ _ _ zd226_125 trivial ⟨rfl, rfl, _, rfl, by omega, by omega, by omega⟩
  refine ⟨fun s1 => ⟨_, rfl, ?_⟩, fun s1 => ?_⟩
  · refine zn_con hB zd226_141 rfl ?_
    exact hret _ _ _ _ _ zd226_142 trivial ⟨rfl, rfl, _, rfl, by omega, by omega, by omega⟩
  refine ⟨fun s1 => ⟨_, rfl, ?_⟩, fun s1 => ?_⟩
  · refine zn_con hB zd226_141 rfl ?_
    exact hret _ _ _ _ _ zd226_142 trivial ⟨rfl, rfl, _, rfl, by omega, by omega, by omega⟩
  refine ⟨fun s1 => ⟨_, rfl, ?_⟩, fun s1 => ?_⟩
  · refine zn_con hB zd226_141 rfl ?_
    exact hret _ _ _ _ _ zd226_142 trivial ⟨rfl, rfl, _, rfl, by omega, by omega, by omega⟩
  refine ⟨fun s1 => ⟨_, rfl, ?_⟩, fun s1 => ?_⟩
  · refine zn_con hB zd226_116 rfl ?_
    exact hret _ _ _ _ _ zd226_117 trivial ⟨rfl, rfl, _, rfl, by omega, by omega, by omega⟩
  refine ⟨fun s1 => ⟨_, rfl, ?_⟩, fun s1 => ?_⟩
  · refine zn_con hB zd226_126 rfl ?_
    exact hret _ _ _ _ _ zd226_128 trivial ⟨rfl, rfl, _, rfl, by omega, by omega, by omega⟩
  refine ⟨fun s1 => ⟨_, rfl, ?_⟩, fun s1 => ?_⟩
  · refine zn_con hB zd226_141 rfl ?_
    exact hret _ _ _ _ _ zd226_142 trivial ⟨rfl, rfl, _, rfl, by omega, by omega, by omega⟩
  refine ⟨fun s1 => ⟨_, rfl, ?_⟩, fun s1 => ?_⟩
  · refine zn_con hB zd226_110 rfl ?_
    exact hret _ _ _ _ _ zd226_111 trivial ⟨rfl, rfl, _, rfl, by omega, by omega, by omega⟩
  refine ⟨fun s1 => ⟨_, rfl, ?_⟩, fun s1 => ?_⟩
  · refine zn_con hB zd226_141 rfl ?_
    exact hret _ _ _ _ _ zd226_142 trivial ⟨rfl, rfl, _, rfl, by omega, by omega, by omega⟩
  refine ⟨fun s1 => ⟨_, rfl, ?_⟩, fun s1 => ?_⟩
  · refine zn_con hB zd226_141 rfl ?_
    exact hret _ _ _ _ _ zd226_142 trivial ⟨rfl, rfl, _, rfl, by omega, by omega, by omega⟩
  refine ⟨fun s1 => ⟨_, rfl, ?_⟩, fun s1 => ?_⟩
  · refine zn_con hB zd226_132 rfl ?_
    exact hret _ _ _ _ _ zd226_134 trivial ⟨rfl, rfl, _, rfl, by omega, by omega, by omega⟩
  refine ⟨fun s1 => ⟨_, rfl, ?_⟩, fun s1 => ?_⟩
  · refine zn_con hB zd226_135 rfl ?_
    exact hret _ _ _ _ _ zd226_137 trivial ⟨rfl, rfl, _, rfl, by omega, by omega, by omega⟩
  refine ⟨_, rfl, ?_⟩
  refine zn_con hB zd226_141 rfl ?_
  exact hret _ _ _ _ _ zd226_142 trivial ⟨rfl, rfl, _, rfl, by omega, by omega, by omega⟩
theorem zd227_0 : decode zxm227.2.1 0 = .ok (.iload_n 0, 1) := by decide +kernel
theorem zd227_1 : decode zxm227.2.1 1 = .ok (.bipush 43, 2) := by decide +kernel
theorem zd227_3 : decode zxm227.2.1 3 = .ok (.if_icmp .ne 7, 3) := by decide +kernel
theorem zd227_6 : decode zxm227.2.1 6 = .ok (.iconst 2, 1) := by decide +kernel
theorem zd227_7 : decode zxm227.2.1 7 = .ok (.goto 45, 3) := by decide +kernel
theorem zd227_10 : decode zxm227.2.1 10 = .ok (.iload_n 0, 1) := by decide +kernel
theorem zd227_11 : decode zxm227.2.1 11 = .ok (.bipush 45, 2) := by decide +kernel
theorem zd227_13 : decode zxm227.2.1 13 = .ok (.if_icmp .ne 7, 3) := by decide +kernel
theorem zd227_16 : decode zxm227.2.1 16 = .ok (.iconst 3, 1) := by decide +kernel
theorem zd227_17 : decode zxm227.2.1 17 = .ok (.goto 35, 3) := by decide +kernel
theorem zd227_20 : decode zxm227.2.1 20 = .ok (.iload_n 0, 1) := by decide +kernel
theorem zd227_21 : decode zxm227.2.1 21 = .ok (.bipush 42, 2) := by decide +kernel
theorem zd227_23 : decode zxm227.2.1 23 = .ok (.if_icmp .ne 7, 3) := by decide +kernel
theorem zd227_26 : decode zxm227.2.1 26 = .ok (.iconst 4, 1) := by decide +kernel
theorem zd227_27 : decode zxm227.2.1 27 = .ok (.goto 25, 3) := by decide +kernel
theorem zd227_30 : decode zxm227.2.1 30 = .ok (.iload_n 0, 1) := by decide +kernel
theorem zd227_31 : decode zxm227.2.1 31 = .ok (.bipush 47, 2) := by decide +kernel
theorem zd227_33 : decode zxm227.2.1 33 = .ok (.if_icmp .ne 7, 3) := by decide +kernel
theorem zd227_36 : decode zxm227.2.1 36 = .ok (.iconst 5, 1) := by decide +kernel
theorem zd227_37 : decode zxm227.2.1 37 = .ok (.goto 15, 3) := by decide +kernel
theorem zd227_40 : decode zxm227.2.1 40 = .ok (.iload_n 0, 1) := by decide +kernel
theorem zd227_41 : decode zxm227.2.1 41 = .ok (.bipush 37, 2) := by decide +kernel
theorem zd227_43 : decode zxm227.2.1 43 = .ok (.if_icmp .ne 8, 3) := by decide +kernel
theorem zd227_46 : decode zxm227.2.1 46 = .ok (.bipush 6, 2) := by decide +kernel
theorem zd227_48 : decode zxm227.2.1 48 = .ok (.goto 4, 3) := by decide +kernel
theorem zd227_51 : decode zxm227.2.1 51 = .ok (.iconst (-1), 1) := by decide +kernel
theorem zd227_52 : decode zxm227.2.1 52 = .ok (.ireturn, 1) := by decide +kernel
theorem zh227 {c : Int} : zn_OK z_TB z_cl z_KX zyM zxm227 (0, 0) (fun va F G => va = [.inl c]) (fun va F G r F' G' => F' = F ∧ G' = G ∧ ∃ v, r = some v ∧ (v = -1 ∨ 2 ≤ v ∧ v ≤ 6 ∧ 0 ≤ c)) := zn_meth (K := zkM) (FT := z_FT) (MT := z_MT) (n := 1) zxp227 (z_ks13 _ (fun _ h => List.mem_cons_of_mem _ h) _ _ _ _ (fun j r h _ => by cases h)) (fun _ _ => zs_KX_p) (by decide +kernel) (fun va F G h => by obtain ⟨rfl, _⟩ := h; rfl) rfl fun good va F G hB hret hvret hP => by
  subst hP
  refine zn_ild hB zd227_0 rfl rfl ?_
  refine zn_con hB zd227_1 rfl ?_
  refine zn_cne hB zd227_3 rfl (fun h3 => ?_) (fun h3 => ?_)
  · refine zn_ild hB zd227_10 rfl rfl ?_
    refine zn_con hB zd227_11 rfl ?_
    refine zn_cne hB zd227_13 rfl (fun h13 => ?_) (fun h13 => ?_)
    · refine zn_ild hB zd227_20 rfl rfl ?_
      refine zn_con hB zd227_21 rfl ?_
      refine zn_cne hB zd227_23 rfl (fun h23 => ?_) (fun h23 => ?_)
      · refine zn_ild hB zd227_30 rfl rfl ?_
        refine zn_con hB zd227_31 rfl ?_
        refine zn_cne hB zd227_33 rfl (fun h33 => ?_) (fun h33 => ?_)
        · refine zn_ild hB zd227_40 rfl rfl ?_
          refine zn_con hB zd227_41 rfl ?_
          refine zn_cne hB zd227_43 rfl (fun h43 => ?_) (fun h43 => ?_)
          · refine zn_con hB zd227_51 rfl ?_
            exact hret _ _ _ _ _ zd227_52 trivial ⟨rfl, rfl, _, rfl, by omega⟩
          · refine zn_con hB zd227_46 rfl ?_
            refine zn_goto hB zd227_48 rfl ?_
            exact hret _ _ _ _ _ zd227_52 trivial ⟨rfl, rfl, _, rfl, by omega⟩
        · refine zn_con hB zd227_36 rfl ?_
          refine zn_goto hB zd227_37 rfl ?_
          exact hret _ _ _ _ _ zd227_52 trivial ⟨rfl, rfl, _, rfl, by omega⟩
      · refine zn_con hB zd227_26 rfl ?_
        refine zn_goto hB zd227_27 rfl ?_
        exact hret _ _ _ _ _ zd227_52 trivial ⟨rfl, rfl, _, rfl, by omega⟩
    · refine zn_con hB zd227_16 rfl ?_
      refine zn_goto hB zd227_17 rfl ?_
      exact hret _ _ _ _ _ zd227_52 trivial ⟨rfl, rfl, _, rfl, by omega⟩
  · refine zn_con hB zd227_6 rfl ?_
    refine zn_goto hB zd227_7 rfl ?_
    exact hret _ _ _ _ _ zd227_52 trivial ⟨rfl, rfl, _, rfl, by omega⟩
