/-! The reading of laws by the class: the layout; its smallest methods. -/
abbrev zyL : zNL := (9, [(0, 5), (1, 4)], [(0, 5, 2, 0), (0, 5, 1, 1), (0, 5, 3, 2), (1, 4, 2, 3), (1, 4, 7, 4), (1, 4, 8, 5), (1, 4, 9, 6), (1, 4, 10, 7), (1, 4, 11, 8)], [(0, 5, 0, 2), (0, 5, 4, 1), (1, 4, 0, 3), (1, 4, 1, 4), (1, 4, 3, 5), (1, 4, 4, 6), (1, 4, 5, 7), (1, 4, 6, 8)], [(2, 0, 220, 0), (3, 0, 200, 1), (4, 0, 200, 2), (5, 0, 14, 3), (6, 0, 14, 4), (7, 0, 14, 5), (8, 0, 14, 6)])
abbrev zkR : zK := (z_KF3, z_KC3, z_KL3, z_KT3, [], [], [], none)
abbrev zkW : zK := (z_KF2, z_KC2, z_KL2, z_KT2, [], [], [], none)
/-- the byte that comes next -/
def zr_p (text : Int → Int) (a len : Int) : Int := if 0 ≤ a ∧ a < len then text a else -1
theorem zr_p_in {text : Int → Int} {a len : Int} (h : 0 ≤ a) (h2 : a < len) : zr_p text a len = text a := if_pos ⟨h, h2⟩
theorem zr_p_lt {text : Int → Int} {a len : Int} (h : zr_p text a len ≠ -1) : 0 ≤ a ∧ a < len := by
  unfold zr_p at h
  split at h
  · assumption
  · exact absurd rfl h
def zr_s (a len st : Int) (kinds vals : Int → Int) : Prop := (0 ≤ st ∧ st ≤ a ∧ a ≤ len ∧ len ≤ 200) ∧ zr_J kinds vals
def zr_r (a st : Int) (kinds : Int → Int) (a' st' : Int) (kinds' : Int → Int) : Prop := a ≤ a' ∧ st ≤ st' ∧ st' - st ≤ a' - a ∧ ∀ j, j < st → kinds' j = kinds j
theorem zr_r_rf {a st : Int} {kinds : Int → Int} : zr_r a st kinds a st kinds := ⟨Int.le_refl _, Int.le_refl _, by omega, fun _ _ => rfl⟩
theorem zr_r_tr {a st a1 st1 a2 st2 : Int} {kinds kinds1 kinds2 : Int → Int} (h : zr_r a st kinds a1 st1 kinds1) (k : zr_r a1 st1 kinds1 a2 st2 kinds2) : zr_r a st kinds a2 st2 kinds2 := by
  obtain ⟨h1, h2, h3, h4⟩ := h
  obtain ⟨k1, k2, k3, k4⟩ := k
  exact ⟨by omega, by omega, by omega, fun j hj => by rw [k4 j (by omega), h4 j hj]⟩
/-- a step more, behind a byte more -/
theorem zr_add {a a0 len st kd v : Int} {kinds vals : Int → Int} (h : zr_s a len st kinds vals) (hk : 0 ≤ kd ∧ kd ≤ 12) (hv : 0 ≤ v ∧ v ≤ 99999 ∧ (kd = 1 → v ≤ 12)) (ha : st + 1 ≤ a) (h0 : a0 + 1 ≤ a) : zr_s a len (st + 1) (zn_up kinds st kd) (zn_up vals st v) ∧ zr_r a0 st kinds a (st + 1) (zn_up kinds st kd) := by
  obtain ⟨⟨h1, h2, h3, h4⟩, h5⟩ := h
  refine ⟨⟨⟨by omega, ha, h3, h4⟩, fun k k1 k2 => ?_⟩, ⟨by omega, by omega, by omega, fun j hj => zn_up_n (by omega)⟩⟩
  by_cases e : k = st
  · rw [e, zn_up_s, zn_up_s]; exact ⟨hk.1, hk.2, hv.1, hv.2.1, hv.2.2⟩
  · rw [zn_up_n e, zn_up_n e]; exact h5 k k1 k2
theorem zr_landed {a len st j : Int} {kinds vals : Int → Int} (h : zr_s a len st kinds vals) (hk : kinds j ≠ 1) : zr_s a len st kinds (zn_up vals j st) := by
  obtain ⟨⟨h1, h2, h3, h4⟩, h5⟩ := h
  refine ⟨⟨h1, h2, h3, h4⟩, fun k k1 k2 => ?_⟩
  obtain ⟨q1, q2, q3, q4, q5⟩ := h5 k k1 k2
  by_cases e : k = j
  · rw [e, zn_up_s]; rw [e] at q1 q2; exact ⟨q1, q2, by omega, by omega, fun q => absurd q hk⟩
  · rw [zn_up_n e]; exact ⟨q1, q2, q3, q4, q5⟩
section ZLAWR0
variable {a len fl st cs t1 t2 t3 t4 : Int} {text kinds vals ck af cf ce : Int → Int} {Fr : List Int} {Gr : List (Int → Int)}
theorem zd40_0 : decode zxm40.2.1 0 = .ok (.aload_n 0, 1) := by decide +kernel
theorem zd40_1 : decode zxm40.2.1 1 = .ok (.getfield 15, 3) := by decide +kernel
theorem zd40_4 : decode zxm40.2.1 4 = .ok (.ifCond .lt 26, 3) := by decide +kernel
theorem zd40_7 : decode zxm40.2.1 7 = .ok (.aload_n 0, 1) := by decide +kernel
theorem zd40_8 : decode zxm40.2.1 8 = .ok (.getfield 15, 3) := by decide +kernel
theorem zd40_11 : decode zxm40.2.1 11 = .ok (.aload_n 0, 1) := by decide +kernel
theorem zd40_12 : decode zxm40.2.1 12 = .ok (.getfield 9, 3) := by decide +kernel
theorem zd40_15 : decode zxm40.2.1 15 = .ok (.if_icmp .ge 15, 3) := by decide +kernel
theorem zd40_18 : decode zxm40.2.1 18 = .ok (.aload_n 0, 1) := by decide +kernel
theorem zd40_19 : decode zxm40.2.1 19 = .ok (.getfield 21, 3) := by decide +kernel
theorem zd40_22 : decode zxm40.2.1 22 = .ok (.aload_n 0, 1) := by decide +kernel
theorem zd40_23 : decode zxm40.2.1 23 = .ok (.getfield 15, 3) := by decide +kernel
theorem zd40_26 : decode zxm40.2.1 26 = .ok (.iaload, 1) := by decide +kernel
theorem zd40_27 : decode zxm40.2.1 27 = .ok (.goto 4, 3) := by decide +kernel
theorem zd40_30 : decode zxm40.2.1 30 = .ok (.iconst (-1), 1) := by decide +kernel
theorem zd40_31 : decode zxm40.2.1 31 = .ok (.ireturn, 1) := by decide +kernel
theorem zh40  : zn_OK z_TB z_cl z_KX zyL zxm40 (0, 0) (fun va F G => va = [.inr 0] ∧ F = a :: len :: Fr ∧ G = text :: Gr ∧ len ≤ 220) (fun va F G r F' G' => F' = F ∧ G' = G ∧ r = some (zr_p text a len)) := zn_meth (K := zkR) (FT := z_FT) (MT := z_MT) (n := 1) zxp40 (z_ks3 _ (fun _ h => List.mem_cons_of_mem _ h) _ _ _ _ (fun j r h _ => by cases h)) (fun _ _ => zs_KX_p) (by decide +kernel) (fun va F G h => by obtain ⟨rfl, _⟩ := h; rfl) rfl fun good va F G hB hret hvret hP => by
  obtain ⟨rfl, rfl, rfl, h0⟩ := hP
  refine zn_ald hB zd40_0 rfl rfl rfl ?_
  refine zn_getf hB zd40_1 rfl rfl (fun q1 r1 => ?_)
  refine zn_zlt hB zd40_4 rfl (fun h4 => ?_) (fun h4 => ?_)
  · refine zn_con hB zd40_30 rfl ?_
    exact hret _ _ _ _ _ zd40_31 trivial ⟨rfl, rfl, by unfold zr_p; first | rw [if_pos (by omega)] | rw [if_neg (by omega)]⟩
  · refine zn_ald hB zd40_7 rfl rfl rfl ?_
    refine zn_getf hB zd40_8 rfl rfl (fun q8 r8 => ?_)
    refine zn_ald hB zd40_11 rfl rfl rfl ?_
    refine zn_getf hB zd40_12 rfl rfl (fun q12 r12 => ?_)
    refine zn_cge hB zd40_15 rfl (fun h15 => ?_) (fun h15 => ?_)
    · refine zn_con hB zd40_30 rfl ?_
      exact hret _ _ _ _ _ zd40_31 trivial ⟨rfl, rfl, by unfold zr_p; first | rw [if_pos (by omega)] | rw [if_neg (by omega)]⟩
    · refine zn_ald hB zd40_18 rfl rfl rfl ?_
      refine zn_getr hB zd40_19 rfl ?_
      refine zn_ald hB zd40_22 rfl rfl rfl ?_
      refine zn_getf hB zd40_23 rfl rfl (fun q23 r23 => ?_)
      refine zn_iald hB zd40_26 rfl rfl (by omega) (by omega) (fun q26 r26 => ?_)
      refine zn_goto hB zd40_27 rfl ?_
      exact hret _ _ _ _ _ zd40_31 trivial ⟨rfl, rfl, by unfold zr_p; first | rw [if_pos (by omega)] | rw [if_neg (by omega)]⟩
theorem zd42_0 : decode zxm42.2.1 0 = .ok (.sipush (-1000), 3) := by decide +kernel
theorem zd42_3 : decode zxm42.2.1 3 = .ok (.iload_n 0, 1) := by decide +kernel
theorem zd42_4 : decode zxm42.2.1 4 = .ok (.imul, 1) := by decide +kernel
theorem zd42_5 : decode zxm42.2.1 5 = .ok (.iload_n 1, 1) := by decide +kernel
theorem zd42_6 : decode zxm42.2.1 6 = .ok (.isub, 1) := by decide +kernel
theorem zd42_7 : decode zxm42.2.1 7 = .ok (.ireturn, 1) := by decide +kernel
theorem zh42 {x z : Int} : zn_OK z_TB z_cl z_KX zyL zxm42 (0, 0) (fun va F G => va = [.inl x, .inl z]) (fun va F G r F' G' => F' = F ∧ G' = G ∧ ∃ v, r = some v) := zn_meth (K := (z_KF0, z_KC0, z_KL0, z_KT0, [], [], [], none)) (FT := z_FT) (MT := z_MT) (n := 2) zxp42 (z_ks0 _ (fun _ h => List.mem_cons_of_mem _ h) _ _ _ _ (fun j r h _ => by cases h)) (fun _ _ => zs_KX_p) (by decide +kernel) (fun va F G h => by obtain ⟨rfl, _⟩ := h; rfl) rfl fun good va F G hB hret hvret hP => by
  subst hP
  refine zn_con hB zd42_0 rfl ?_
  refine zn_ild hB zd42_3 rfl rfl ?_
  refine zn_any hB zd42_4 rfl (fun v4 q4 r4 => ?_)
  refine zn_ild hB zd42_5 rfl rfl ?_
  refine zn_any hB zd42_6 rfl (fun v6 q6 r6 => ?_)
  exact hret _ _ _ _ _ zd42_7 trivial ⟨rfl, rfl, _, rfl⟩
theorem zd41_0 : decode zxm41.2.1 0 = .ok (.aload_n 0, 1) := by decide +kernel
theorem zd41_1 : decode zxm41.2.1 1 = .ok (.getfield 18, 3) := by decide +kernel
theorem zd41_4 : decode zxm41.2.1 4 = .ok (.ifCond .ne 15, 3) := by decide +kernel
theorem zd41_7 : decode zxm41.2.1 7 = .ok (.aload_n 0, 1) := by decide +kernel
theorem zd41_8 : decode zxm41.2.1 8 = .ok (.iload_n 1, 1) := by decide +kernel
theorem zd41_9 : decode zxm41.2.1 9 = .ok (.aload_n 0, 1) := by decide +kernel
theorem zd41_10 : decode zxm41.2.1 10 = .ok (.getfield 15, 3) := by decide +kernel
theorem zd41_13 : decode zxm41.2.1 13 = .ok (.invokestatic 50, 3) := by decide +kernel
theorem zd41_16 : decode zxm41.2.1 16 = .ok (.putfield 18, 3) := by decide +kernel
theorem zd41_19 : decode zxm41.2.1 19 = .ok (.return_, 1) := by decide +kernel
theorem zh41 {x : Int} : zn_OK z_TB z_cl z_KX zyL zxm41 (1, 60) (fun va F G => va = [.inr 0, .inl x] ∧ F = a :: len :: fl :: Fr) (fun va F G r F' G' => r = none ∧ ∃ fl', F' = a :: len :: fl' :: Fr ∧ G' = G) := zn_meth (K := zkR) (FT := z_FT) (MT := z_MT) (n := 2) zxp41 (z_ks3 _ (fun _ h => List.mem_cons_of_mem _ h) _ _ _ _ (fun j r h _ => by cases h)) (fun _ _ => zs_KX_p) (by decide +kernel) (fun va F G h => by obtain ⟨rfl, _⟩ := h; rfl) rfl fun good va F G hB hret hvret hP => by
  obtain ⟨rfl, rfl⟩ := hP
  refine zn_ald hB zd41_0 rfl rfl rfl ?_
  refine zn_getf hB zd41_1 rfl rfl (fun q1 r1 => ?_)
  refine zn_zne hB zd41_4 rfl (fun h4 => ?_) (fun h4 => ?_)
  · exact hvret _ _ _ _ zd41_19 trivial ⟨rfl, _, rfl, rfl⟩
  · refine zn_ald hB zd41_7 rfl rfl rfl ?_
    refine zn_ild hB zd41_8 rfl rfl ?_
    refine zn_ald hB zd41_9 rfl rfl rfl ?_
    refine zn_getf hB zd41_10 rfl rfl (fun q10 r10 => ?_)
    refine zn_it2 hB zh42 zd41_13 zxt42 rfl rfl (fun r13 F13 G13 hq13 => ?_)
    obtain ⟨rfl, rfl, v, rfl⟩ := hq13
    refine zn_putf hB zd41_16 rfl rfl (fun h => by cases h) rfl ?_
    exact hvret _ _ _ _ zd41_19 trivial ⟨rfl, _, rfl, rfl⟩
theorem zd46_0 : decode zxm46.2.1 0 = .ok (.aload_n 0, 1) := by decide +kernel
theorem zd46_1 : decode zxm46.2.1 1 = .ok (.getfield 18, 3) := by decide +kernel
theorem zd46_4 : decode zxm46.2.1 4 = .ok (.ifCond .eq 4, 3) := by decide +kernel
theorem zd46_7 : decode zxm46.2.1 7 = .ok (.return_, 1) := by decide +kernel
theorem zd46_8 : decode zxm46.2.1 8 = .ok (.aload_n 0, 1) := by decide +kernel
theorem zd46_9 : decode zxm46.2.1 9 = .ok (.invokevirtual 53, 3) := by decide +kernel
theorem zd46_12 : decode zxm46.2.1 12 = .ok (.iload_n 1, 1) := by decide +kernel
theorem zd46_13 : decode zxm46.2.1 13 = .ok (.if_icmp .ne 16, 3) := by decide +kernel
theorem zd46_16 : decode zxm46.2.1 16 = .ok (.aload_n 0, 1) := by decide +kernel
theorem zd46_17 : decode zxm46.2.1 17 = .ok (.dup, 1) := by decide +kernel
theorem zd46_18 : decode zxm46.2.1 18 = .ok (.getfield 15, 3) := by decide +kernel
theorem zd46_21 : decode zxm46.2.1 21 = .ok (.iconst 1, 1) := by decide +kernel
theorem zd46_22 : decode zxm46.2.1 22 = .ok (.iadd, 1) := by decide +kernel
theorem zd46_23 : decode zxm46.2.1 23 = .ok (.putfield 15, 3) := by decide +kernel
theorem zd46_26 : decode zxm46.2.1 26 = .ok (.goto 8, 3) := by decide +kernel
theorem zd46_29 : decode zxm46.2.1 29 = .ok (.aload_n 0, 1) := by decide +kernel
theorem zd46_30 : decode zxm46.2.1 30 = .ok (.iconst 1, 1) := by decide +kernel
theorem zd46_31 : decode zxm46.2.1 31 = .ok (.invokevirtual 57, 3) := by decide +kernel
theorem zd46_34 : decode zxm46.2.1 34 = .ok (.return_, 1) := by decide +kernel
theorem zh46 {x : Int} : zn_OK z_TB z_cl z_KX zyL zxm46 (2, 120) (fun va F G => va = [.inr 0, .inl x] ∧ F = a :: len :: fl :: Fr ∧ G = text :: Gr ∧ 0 ≤ a ∧ a ≤ len ∧ len ≤ 200 ∧ 0 ≤ x) (fun va F G r F' G' => r = none ∧ ∃ a' fl', F' = a' :: len :: fl' :: Fr ∧ G' = G ∧ a ≤ a' ∧ a' ≤ len) := zn_meth (K := zkR) (FT := z_FT) (MT := z_MT) (n := 2) zxp46 (z_ks3 _ (fun _ h => List.mem_cons_of_mem _ h) _ _ _ _ (fun j r h _ => by cases h)) (fun _ _ => zs_KX_p) (by decide +kernel) (fun va F G h => by obtain ⟨rfl, _⟩ := h; rfl) rfl fun good va F G hB hret hvret hP => by
  obtain ⟨rfl, rfl, rfl, h0, h1, h2, h3⟩ := hP
  refine zn_ald hB zd46_0 rfl rfl rfl ?_
  refine zn_getf hB zd46_1 rfl rfl (fun q1 r1 => ?_)
  refine zn_zeq hB zd46_4 rfl (fun h4 => ?_) (fun h4 => ?_)
  · refine zn_ald hB zd46_8 rfl rfl rfl ?_
    refine zn_iv0 hB (zh40 (a := a) (len := len) (text := text)) zd46_9 zxt40 rfl ⟨rfl, rfl, rfl, by omega⟩ (fun r9 F9 G9 hq9 => ?_)
    obtain ⟨rfl, rfl, rfl⟩ := hq9
    refine zn_ild hB zd46_12 rfl rfl ?_
    refine zn_cne hB zd46_13 rfl (fun h13 => ?_) (fun h13 => ?_)
    · refine zn_ald hB zd46_29 rfl rfl rfl ?_
      refine zn_con hB zd46_30 rfl ?_
      refine zn_iv1 hB zh41 zd46_31 zxt41 rfl ⟨rfl, rfl⟩ (fun r31 F31 G31 hq31 => ?_)
      obtain ⟨rfl, fl1, rfl, rfl⟩ := hq31
      exact hvret _ _ _ _ zd46_34 trivial ⟨rfl, _, _, rfl, rfl, by omega, by omega⟩
    · have hlt := zr_p_lt (text := text) (a := a) (len := len) (by omega)
      refine zn_ald hB zd46_16 rfl rfl rfl ?_
      refine zn_dup hB zd46_17 ?_
      refine zn_getf hB zd46_18 rfl rfl (fun q18 r18 => ?_)
      refine zn_con hB zd46_21 rfl ?_
      refine zn_iadd hB zd46_22 (by omega) (by omega) ?_
      refine zn_putf hB zd46_23 rfl rfl (fun h => by cases h) rfl ?_
      refine zn_goto hB zd46_26 rfl ?_
      exact hvret _ _ _ _ zd46_34 trivial ⟨rfl, _, _, rfl, rfl, by omega, by omega⟩
  · exact hvret _ _ _ _ zd46_7 trivial ⟨rfl, _, _, rfl, rfl, by omega, by omega⟩
theorem zd47_0 : decode zxm47.2.1 0 = .ok (.iload_n 0, 1) := by decide +kernel
theorem zd47_1 : decode zxm47.2.1 1 = .ok (.bipush 48, 2) := by decide +kernel
theorem zd47_3 : decode zxm47.2.1 3 = .ok (.if_icmp .lt 13, 3) := by decide +kernel
theorem zd47_6 : decode zxm47.2.1 6 = .ok (.iload_n 0, 1) := by decide +kernel
theorem zd47_7 : decode zxm47.2.1 7 = .ok (.bipush 57, 2) := by decide +kernel
theorem zd47_9 : decode zxm47.2.1 9 = .ok (.if_icmp .gt 7, 3) := by decide +kernel
theorem zd47_12 : decode zxm47.2.1 12 = .ok (.iconst 1, 1) := by decide +kernel
theorem zd47_13 : decode zxm47.2.1 13 = .ok (.goto 4, 3) := by decide +kernel
theorem zd47_16 : decode zxm47.2.1 16 = .ok (.iconst 0, 1) := by decide +kernel
theorem zd47_17 : decode zxm47.2.1 17 = .ok (.ireturn, 1) := by decide +kernel
theorem zh47 {c : Int} : zn_OK z_TB z_cl z_KX zyL zxm47 (0, 0) (fun va F G => va = [.inl c]) (fun va F G r F' G' => F' = F ∧ G' = G ∧ (r = some 1 ∧ 48 ≤ c ∧ c ≤ 57 ∨ r = some 0 ∧ (c < 48 ∨ 57 < c))) := zn_meth (K := zkR) (FT := z_FT) (MT := z_MT) (n := 1) zxp47 (z_ks3 _ (fun _ h => List.mem_cons_of_mem _ h) _ _ _ _ (fun j r h _ => by cases h)) (fun _ _ => zs_KX_p) (by decide +kernel) (fun va F G h => by obtain ⟨rfl, _⟩ := h; rfl) rfl fun good va F G hB hret hvret hP => by
  subst hP
  refine zn_ild hB zd47_0 rfl rfl ?_
  refine zn_con hB zd47_1 rfl ?_
  refine zn_clt hB zd47_3 rfl (fun h3 => ?_) (fun h3 => ?_)
  · refine zn_con hB zd47_16 rfl ?_
    refine hret _ _ _ _ _ zd47_17 (by constructor <;> decide) ⟨rfl, rfl, ?_⟩
    first | exact Or.inl ⟨rfl, by omega, by omega⟩ | exact Or.inr ⟨rfl, by omega⟩
  · refine zn_ild hB zd47_6 rfl rfl ?_
    refine zn_con hB zd47_7 rfl ?_
    refine zn_cgt hB zd47_9 rfl (fun h9 => ?_) (fun h9 => ?_)
    · refine zn_con hB zd47_16 rfl ?_
      refine hret _ _ _ _ _ zd47_17 (by constructor <;> decide) ⟨rfl, rfl, ?_⟩
      first | exact Or.inl ⟨rfl, by omega, by omega⟩ | exact Or.inr ⟨rfl, by omega⟩
    · refine zn_con hB zd47_12 rfl ?_
      refine zn_goto hB zd47_13 rfl ?_
      refine hret _ _ _ _ _ zd47_17 (by constructor <;> decide) ⟨rfl, rfl, ?_⟩
      first | exact Or.inl ⟨rfl, by omega, by omega⟩ | exact Or.inr ⟨rfl, by omega⟩
theorem zd49_0 : decode zxm49.2.1 0 = .ok (.aload_n 0, 1) := by decide +kernel
theorem zd49_1 : decode zxm49.2.1 1 = .ok (.getfield 16, 3) := by decide +kernel
theorem zd49_4 : decode zxm49.2.1 4 = .ok (.sipush 200, 3) := by decide +kernel
theorem zd49_7 : decode zxm49.2.1 7 = .ok (.if_icmp .ge 33, 3) := by decide +kernel
theorem zd49_10 : decode zxm49.2.1 10 = .ok (.aload_n 0, 1) := by decide +kernel
theorem zd49_11 : decode zxm49.2.1 11 = .ok (.getfield 9, 3) := by decide +kernel
theorem zd49_14 : decode zxm49.2.1 14 = .ok (.aload_n 0, 1) := by decide +kernel
theorem zd49_15 : decode zxm49.2.1 15 = .ok (.getfield 16, 3) := by decide +kernel
theorem zd49_18 : decode zxm49.2.1 18 = .ok (.iload_n 1, 1) := by decide +kernel
theorem zd49_19 : decode zxm49.2.1 19 = .ok (.iastore, 1) := by decide +kernel
theorem zd49_20 : decode zxm49.2.1 20 = .ok (.aload_n 0, 1) := by decide +kernel
theorem zd49_21 : decode zxm49.2.1 21 = .ok (.getfield 13, 3) := by decide +kernel
theorem zd49_24 : decode zxm49.2.1 24 = .ok (.aload_n 0, 1) := by decide +kernel
theorem zd49_25 : decode zxm49.2.1 25 = .ok (.getfield 16, 3) := by decide +kernel
theorem zd49_28 : decode zxm49.2.1 28 = .ok (.iload_n 2, 1) := by decide +kernel
theorem zd49_29 : decode zxm49.2.1 29 = .ok (.iastore, 1) := by decide +kernel
theorem zd49_30 : decode zxm49.2.1 30 = .ok (.aload_n 0, 1) := by decide +kernel
theorem zd49_31 : decode zxm49.2.1 31 = .ok (.dup, 1) := by decide +kernel
theorem zd49_32 : decode zxm49.2.1 32 = .ok (.getfield 16, 3) := by decide +kernel
theorem zd49_35 : decode zxm49.2.1 35 = .ok (.iconst 1, 1) := by decide +kernel
theorem zd49_36 : decode zxm49.2.1 36 = .ok (.iadd, 1) := by decide +kernel
theorem zd49_37 : decode zxm49.2.1 37 = .ok (.putfield 16, 3) := by decide +kernel
theorem zd49_40 : decode zxm49.2.1 40 = .ok (.aload_n 0, 1) := by decide +kernel
theorem zd49_41 : decode zxm49.2.1 41 = .ok (.getfield 16, 3) := by decide +kernel
theorem zd49_44 : decode zxm49.2.1 44 = .ok (.iconst 1, 1) := by decide +kernel
theorem zd49_45 : decode zxm49.2.1 45 = .ok (.isub, 1) := by decide +kernel
theorem zd49_46 : decode zxm49.2.1 46 = .ok (.ireturn, 1) := by decide +kernel
theorem zh49 {kd v : Int} : zn_OK z_TB z_cl z_KX zyL zxm49 (0, 0) (fun va F G => va = [.inr 1, .inl kd, .inl v] ∧ F = a :: len :: fl :: st :: Fr ∧ G = text :: kinds :: vals :: Gr ∧ 0 ≤ st ∧ st < 200) (fun va F G r F' G' => r = some st ∧ F' = a :: len :: fl :: (st + 1) :: Fr ∧ G' = text :: zn_up kinds st kd :: zn_up vals st v :: Gr) := zn_meth (K := zkW) (FT := z_FT) (MT := z_MT) (n := 3) zxp49 (z_ks2 _ (fun _ h => List.mem_cons_of_mem _ h) _ _ _ _ (fun j r h _ => by cases h)) (fun _ _ => zs_KX_p) (by decide +kernel) (fun va F G h => by obtain ⟨rfl, _⟩ := h; rfl) rfl fun good va F G hB hret hvret hP => by
  obtain ⟨rfl, rfl, rfl, h0, h1⟩ := hP
  refine zn_ald hB zd49_0 rfl rfl rfl ?_
  refine zn_getf hB zd49_1 rfl rfl (fun q1 r1 => ?_)
  refine zn_con hB zd49_4 rfl ?_
  refine zn_cge hB zd49_7 rfl (fun h7 => ?_) (fun h7 => ?_)
  · exfalso; omega
  · refine zn_ald hB zd49_10 rfl rfl rfl ?_
    refine zn_getr hB zd49_11 rfl ?_
    refine zn_ald hB zd49_14 rfl rfl rfl ?_
    refine zn_getf hB zd49_15 rfl rfl (fun q15 r15 => ?_)
    refine zn_ild hB zd49_18 rfl rfl ?_
    refine zn_iast hB zd49_19 rfl rfl (by omega) (by omega) ?_
    refine zn_ald hB zd49_20 rfl rfl rfl ?_
    refine zn_getr hB zd49_21 rfl ?_
    refine zn_ald hB zd49_24 rfl rfl rfl ?_
    refine zn_getf hB zd49_25 rfl rfl (fun q25 r25 => ?_)
    refine zn_ild hB zd49_28 rfl rfl ?_
    refine zn_iast hB zd49_29 rfl rfl (by omega) (by omega) ?_
    refine zn_ald hB zd49_30 rfl rfl rfl ?_
    refine zn_dup hB zd49_31 ?_
    refine zn_getf hB zd49_32 rfl rfl (fun q32 r32 => ?_)
    refine zn_con hB zd49_35 rfl ?_
    refine zn_iadd hB zd49_36 (by omega) (by omega) ?_
    refine zn_putf hB zd49_37 rfl rfl (fun h => by cases h) rfl ?_
    refine zn_ald hB zd49_40 rfl rfl rfl ?_
    refine zn_getf hB zd49_41 rfl rfl (fun q41 r41 => ?_)
    refine zn_con hB zd49_44 rfl ?_
    refine zn_isub hB zd49_45 (by omega) (by omega) ?_
    exact hret _ _ _ _ _ zd49_46 trivial ⟨by rw [Int.add_sub_cancel], rfl, rfl⟩
theorem zd73_0 : decode zxm73.2.1 0 = .ok (.iload_n 1, 1) := by decide +kernel
theorem zd73_1 : decode zxm73.2.1 1 = .ok (.ifCond .lt 20, 3) := by decide +kernel
theorem zd73_4 : decode zxm73.2.1 4 = .ok (.iload_n 1, 1) := by decide +kernel
theorem zd73_5 : decode zxm73.2.1 5 = .ok (.sipush 200, 3) := by decide +kernel
theorem zd73_8 : decode zxm73.2.1 8 = .ok (.if_icmp .ge 13, 3) := by decide +kernel
theorem zd73_11 : decode zxm73.2.1 11 = .ok (.aload_n 0, 1) := by decide +kernel
theorem zd73_12 : decode zxm73.2.1 12 = .ok (.getfield 13, 3) := by decide +kernel
theorem zd73_15 : decode zxm73.2.1 15 = .ok (.iload_n 1, 1) := by decide +kernel
theorem zd73_16 : decode zxm73.2.1 16 = .ok (.aload_n 0, 1) := by decide +kernel
theorem zd73_17 : decode zxm73.2.1 17 = .ok (.getfield 16, 3) := by decide +kernel
theorem zd73_20 : decode zxm73.2.1 20 = .ok (.iastore, 1) := by decide +kernel
theorem zd73_21 : decode zxm73.2.1 21 = .ok (.return_, 1) := by decide +kernel
theorem zh73 {j : Int} : zn_OK z_TB z_cl z_KX zyL zxm73 (0, 0) (fun va F G => va = [.inr 1, .inl j] ∧ F = a :: len :: fl :: st :: Fr ∧ G = text :: kinds :: vals :: Gr ∧ 0 ≤ j ∧ j < 200) (fun va F G r F' G' => r = none ∧ F' = F ∧ G' = text :: kinds :: zn_up vals j st :: Gr) := zn_meth (K := zkW) (FT := z_FT) (MT := z_MT) (n := 2) zxp73 (z_ks2 _ (fun _ h => List.mem_cons_of_mem _ h) _ _ _ _ (fun j r h _ => by cases h)) (fun _ _ => zs_KX_p) (by decide +kernel) (fun va F G h => by obtain ⟨rfl, _⟩ := h; rfl) rfl fun good va F G hB hret hvret hP => by
  obtain ⟨rfl, rfl, rfl, h0, h1⟩ := hP
  refine zn_ild hB zd73_0 rfl rfl ?_
  refine zn_zlt hB zd73_1 rfl (fun h1 => ?_) (fun h1 => ?_)
  · exfalso; omega
  · refine zn_ild hB zd73_4 rfl rfl ?_
    refine zn_con hB zd73_5 rfl ?_
    refine zn_cge hB zd73_8 rfl (fun h8 => ?_) (fun h8 => ?_)
    · exfalso; omega
    · refine zn_ald hB zd73_11 rfl rfl rfl ?_
      refine zn_getr hB zd73_12 rfl ?_
      refine zn_ild hB zd73_15 rfl rfl ?_
      refine zn_ald hB zd73_16 rfl rfl rfl ?_
      refine zn_getf hB zd73_17 rfl rfl (fun q17 r17 => ?_)
      refine zn_iast hB zd73_20 rfl rfl (by omega) (by omega) ?_
      exact hvret _ _ _ _ zd73_21 trivial ⟨rfl, rfl, rfl⟩
theorem zd75_0 : decode zxm75.2.1 0 = .ok (.iload_n 1, 1) := by decide +kernel
theorem zd75_1 : decode zxm75.2.1 1 = .ok (.istore_n 3, 1) := by decide +kernel
theorem zd75_2 : decode zxm75.2.1 2 = .ok (.iload_n 3, 1) := by decide +kernel
theorem zd75_3 : decode zxm75.2.1 3 = .ok (.aload_n 0, 1) := by decide +kernel
theorem zd75_4 : decode zxm75.2.1 4 = .ok (.getfield 16, 3) := by decide +kernel
theorem zd75_7 : decode zxm75.2.1 7 = .ok (.if_icmp .ge 31, 3) := by decide +kernel
theorem zd75_10 : decode zxm75.2.1 10 = .ok (.aload_n 0, 1) := by decide +kernel
theorem zd75_11 : decode zxm75.2.1 11 = .ok (.getfield 9, 3) := by decide +kernel
theorem zd75_14 : decode zxm75.2.1 14 = .ok (.iload_n 3, 1) := by decide +kernel
theorem zd75_15 : decode zxm75.2.1 15 = .ok (.iaload, 1) := by decide +kernel
theorem zd75_16 : decode zxm75.2.1 16 = .ok (.iconst 1, 1) := by decide +kernel
theorem zd75_17 : decode zxm75.2.1 17 = .ok (.if_icmp .ne 15, 3) := by decide +kernel
theorem zd75_20 : decode zxm75.2.1 20 = .ok (.aload_n 0, 1) := by decide +kernel
theorem zd75_21 : decode zxm75.2.1 21 = .ok (.getfield 13, 3) := by decide +kernel
theorem zd75_24 : decode zxm75.2.1 24 = .ok (.iload_n 3, 1) := by decide +kernel
theorem zd75_25 : decode zxm75.2.1 25 = .ok (.iaload, 1) := by decide +kernel
theorem zd75_26 : decode zxm75.2.1 26 = .ok (.iload_n 2, 1) := by decide +kernel
theorem zd75_27 : decode zxm75.2.1 27 = .ok (.if_icmp .ne 5, 3) := by decide +kernel
theorem zd75_30 : decode zxm75.2.1 30 = .ok (.iconst 1, 1) := by decide +kernel
theorem zd75_31 : decode zxm75.2.1 31 = .ok (.ireturn, 1) := by decide +kernel
theorem zd75_32 : decode zxm75.2.1 32 = .ok (.iinc 3 1, 3) := by decide +kernel
theorem zd75_35 : decode zxm75.2.1 35 = .ok (.goto (-33), 3) := by decide +kernel
theorem zd75_38 : decode zxm75.2.1 38 = .ok (.iconst 0, 1) := by decide +kernel
theorem zd75_39 : decode zxm75.2.1 39 = .ok (.ireturn, 1) := by decide +kernel
theorem zh75 {fr x : Int} : zn_OK z_TB z_cl z_KX zyL zxm75 (0, 0) (fun va F G => va = [.inr 1, .inl fr, .inl x] ∧ F = a :: len :: fl :: st :: Fr ∧ G = text :: kinds :: vals :: Gr ∧ 0 ≤ fr ∧ st ≤ 200) (fun va F G r F' G' => F' = F ∧ G' = G ∧ (r = some 0 ∨ r = some 1)) := zn_meth (K := zkW) (FT := z_FT) (MT := z_MT) (n := 3) zxp75 (z_ks2 _ (fun _ h => List.mem_cons_of_mem _ h) _ _ _ _ (fun j r h _ => by cases h)) (fun _ _ => zs_KX_p) (by decide +kernel) (fun va F G h => by obtain ⟨rfl, _⟩ := h; rfl) rfl fun good va F G hB hret hvret hP => by
  obtain ⟨rfl, rfl, rfl, h0, h1⟩ := hP
  have key : ∀ (n : Nat) (k : Int), st - k < n → 0 ≤ k → good 2 [.inr 1, .inl fr, .inl x, .inl k] [] (a :: len :: fl :: st :: Fr) (text :: kinds :: vals :: Gr) := by
    intro n
    induction n with
    | zero =>
      intro k a1 a2
      refine zn_ild hB zd75_2 rfl rfl ?_
      refine zn_ald hB zd75_3 rfl rfl rfl ?_
      refine zn_getf hB zd75_4 rfl rfl (fun q4 r4 => ?_)
      refine zn_cge hB zd75_7 rfl (fun h7 => ?_) (fun h7 => ?_)
      · refine zn_con hB zd75_38 rfl ?_
        refine hret _ _ _ _ _ zd75_39 (by constructor <;> decide) ⟨rfl, rfl, ?_⟩
        first | exact Or.inl rfl | exact Or.inr rfl
      · exfalso; omega
    | succ n ih =>
      intro k a1 a2
      refine zn_ild hB zd75_2 rfl rfl ?_
      refine zn_ald hB zd75_3 rfl rfl rfl ?_
      refine zn_getf hB zd75_4 rfl rfl (fun q4 r4 => ?_)
      refine zn_cge hB zd75_7 rfl (fun h7 => ?_) (fun h7 => ?_)
      · refine zn_con hB zd75_38 rfl ?_
        refine hret _ _ _ _ _ zd75_39 (by constructor <;> decide) ⟨rfl, rfl, ?_⟩
        first | exact Or.inl rfl | exact Or.inr rfl
      · refine zn_ald hB zd75_10 rfl rfl rfl ?_
        refine zn_getr hB zd75_11 rfl ?_
        refine zn_ild hB zd75_14 rfl rfl ?_
        refine zn_iald hB zd75_15 rfl rfl (by omega) (by omega) (fun q15 r15 => ?_)
        refine zn_con hB zd75_16 rfl ?_
        refine zn_cne hB zd75_17 rfl (fun h17 => ?_) (fun h17 => ?_)
        · refine zn_iinc hB zd75_32 rfl rfl (by omega) (by omega) ?_
          refine zn_goto hB zd75_35 rfl ?_
          exact ih (k + 1) (by omega) (by omega)
        · refine zn_ald hB zd75_20 rfl rfl rfl ?_
          refine zn_getr hB zd75_21 rfl ?_
          refine zn_ild hB zd75_24 rfl rfl ?_
          refine zn_iald hB zd75_25 rfl rfl (by omega) (by omega) (fun q25 r25 => ?_)
          refine zn_ild hB zd75_26 rfl rfl ?_
          refine zn_cne hB zd75_27 rfl (fun h27 => ?_) (fun h27 => ?_)
          · refine zn_iinc hB zd75_32 rfl rfl (by omega) (by omega) ?_
            refine zn_goto hB zd75_35 rfl ?_
            exact ih (k + 1) (by omega) (by omega)
          · refine zn_con hB zd75_30 rfl ?_
            refine hret _ _ _ _ _ zd75_31 (by constructor <;> decide) ⟨rfl, rfl, ?_⟩
            first | exact Or.inl rfl | exact Or.inr rfl
  refine zn_ild hB zd75_0 rfl rfl ?_
  refine zn_ist hB zd75_1 rfl rfl rfl ?_
  exact key ((st - fr).toNat + 1) fr (by omega) (by omega)
theorem zd38_0 : decode zxm38.2.1 0 = .ok (.aload_n 0, 1) := by decide +kernel
theorem zd38_1 : decode zxm38.2.1 1 = .ok (.iconst 0, 1) := by decide +kernel
theorem zd38_2 : decode zxm38.2.1 2 = .ok (.putfield 16, 3) := by decide +kernel
theorem zd38_5 : decode zxm38.2.1 5 = .ok (.aload_n 0, 1) := by decide +kernel
theorem zd38_6 : decode zxm38.2.1 6 = .ok (.iconst 0, 1) := by decide +kernel
theorem zd38_7 : decode zxm38.2.1 7 = .ok (.putfield 32, 3) := by decide +kernel
theorem zd38_10 : decode zxm38.2.1 10 = .ok (.aload_n 0, 1) := by decide +kernel
theorem zd38_11 : decode zxm38.2.1 11 = .ok (.iconst 0, 1) := by decide +kernel
theorem zd38_12 : decode zxm38.2.1 12 = .ok (.putfield 35, 3) := by decide +kernel
theorem zd38_15 : decode zxm38.2.1 15 = .ok (.aload_n 0, 1) := by decide +kernel
theorem zd38_16 : decode zxm38.2.1 16 = .ok (.iconst 0, 1) := by decide +kernel
theorem zd38_17 : decode zxm38.2.1 17 = .ok (.putfield 39, 3) := by decide +kernel
theorem zd38_20 : decode zxm38.2.1 20 = .ok (.aload_n 0, 1) := by decide +kernel
theorem zd38_21 : decode zxm38.2.1 21 = .ok (.iconst 0, 1) := by decide +kernel
theorem zd38_22 : decode zxm38.2.1 22 = .ok (.putfield 42, 3) := by decide +kernel
theorem zd38_25 : decode zxm38.2.1 25 = .ok (.aload_n 0, 1) := by decide +kernel
theorem zd38_26 : decode zxm38.2.1 26 = .ok (.iconst 0, 1) := by decide +kernel
theorem zd38_27 : decode zxm38.2.1 27 = .ok (.putfield 45, 3) := by decide +kernel
theorem zd38_30 : decode zxm38.2.1 30 = .ok (.return_, 1) := by decide +kernel
theorem zh38  : zn_OK z_TB z_cl z_KX zyL zxm38 (0, 0) (fun va F G => va = [.inr 1] ∧ F = a :: len :: fl :: st :: cs :: t1 :: t2 :: t3 :: t4 :: Fr) (fun va F G r F' G' => r = none ∧ F' = a :: len :: fl :: 0 :: 0 :: 0 :: 0 :: 0 :: 0 :: Fr ∧ G' = G) := zn_meth (K := zkW) (FT := z_FT) (MT := z_MT) (n := 1) zxp38 (z_ks2 _ (fun _ h => List.mem_cons_of_mem _ h) _ _ _ _ (fun j r h _ => by cases h)) (fun _ _ => zs_KX_p) (by decide +kernel) (fun va F G h => by obtain ⟨rfl, _⟩ := h; rfl) rfl fun good va F G hB hret hvret hP => by
  obtain ⟨rfl, rfl⟩ := hP
  refine zn_ald hB zd38_0 rfl rfl rfl ?_
  refine zn_con hB zd38_1 rfl ?_
  refine zn_putf hB zd38_2 rfl rfl (fun h => by cases h) rfl ?_
  refine zn_ald hB zd38_5 rfl rfl rfl ?_
  refine zn_con hB zd38_6 rfl ?_
  refine zn_putf hB zd38_7 rfl rfl (fun h => by cases h) rfl ?_
  refine zn_ald hB zd38_10 rfl rfl rfl ?_
  refine zn_con hB zd38_11 rfl ?_
  refine zn_putf hB zd38_12 rfl rfl (fun _ => by omega) rfl ?_
  refine zn_ald hB zd38_15 rfl rfl rfl ?_
  refine zn_con hB zd38_16 rfl ?_
  refine zn_putf hB zd38_17 rfl rfl (fun _ => by omega) rfl ?_
  refine zn_ald hB zd38_20 rfl rfl rfl ?_
  refine zn_con hB zd38_21 rfl ?_
  refine zn_putf hB zd38_22 rfl rfl (fun _ => by omega) rfl ?_
  refine zn_ald hB zd38_25 rfl rfl rfl ?_
  refine zn_con hB zd38_26 rfl ?_
  refine zn_putf hB zd38_27 rfl rfl (fun _ => by omega) rfl ?_
  exact hvret _ _ _ _ zd38_30 trivial ⟨rfl, rfl, rfl⟩
/-- where clauses are -/
def zr_C (af cf ce : Int → Int) : Prop := ∀ q, 0 ≤ q → q < 14 → (0 ≤ af q ∧ af q ≤ 200) ∧ (0 ≤ cf q ∧ cf q ≤ 200) ∧ (0 ≤ ce q ∧ ce q ≤ 200)
theorem zr_C_up {af cf ce : Int → Int} {j u v w : Int} (h : zr_C af cf ce) (hu : 0 ≤ u ∧ u ≤ 200) (hv : 0 ≤ v ∧ v ≤ 200) (hw : 0 ≤ w ∧ w ≤ 200) : zr_C (zn_up af j u) (zn_up cf j v) (zn_up ce j w) := by
  intro q q1 q2
  by_cases e : q = j
  · rw [e, zn_up_s, zn_up_s, zn_up_s]; exact ⟨hu, hv, hw⟩
  · rw [zn_up_n e, zn_up_n e, zn_up_n e]; exact h q q1 q2
/-- the flags of a law -/
def zr_T (cs t1 t2 t3 t4 : Int) : Prop := (0 ≤ cs ∧ cs ≤ 14) ∧ (0 ≤ t1 ∧ t1 ≤ 1) ∧ (0 ≤ t2 ∧ t2 ≤ 1) ∧ (0 ≤ t3 ∧ t3 ≤ 1) ∧ (0 ≤ t4 ∧ t4 ≤ 1)
theorem zd74_0 : decode zxm74.2.1 0 = .ok (.aload_n 0, 1) := by decide +kernel
theorem zd74_1 : decode zxm74.2.1 1 = .ok (.getfield 32, 3) := by decide +kernel
theorem zd74_4 : decode zxm74.2.1 4 = .ok (.bipush 14, 2) := by decide +kernel
theorem zd74_6 : decode zxm74.2.1 6 = .ok (.if_icmp .lt 4, 3) := by decide +kernel
theorem zd74_9 : decode zxm74.2.1 9 = .ok (.return_, 1) := by decide +kernel
theorem zd74_10 : decode zxm74.2.1 10 = .ok (.aload_n 0, 1) := by decide +kernel
theorem zd74_11 : decode zxm74.2.1 11 = .ok (.getfield 20, 3) := by decide +kernel
theorem zd74_14 : decode zxm74.2.1 14 = .ok (.aload_n 0, 1) := by decide +kernel
theorem zd74_15 : decode zxm74.2.1 15 = .ok (.getfield 32, 3) := by decide +kernel
theorem zd74_18 : decode zxm74.2.1 18 = .ok (.iload_n 1, 1) := by decide +kernel
theorem zd74_19 : decode zxm74.2.1 19 = .ok (.iastore, 1) := by decide +kernel
theorem zd74_20 : decode zxm74.2.1 20 = .ok (.aload_n 0, 1) := by decide +kernel
theorem zd74_21 : decode zxm74.2.1 21 = .ok (.getfield 23, 3) := by decide +kernel
theorem zd74_24 : decode zxm74.2.1 24 = .ok (.aload_n 0, 1) := by decide +kernel
theorem zd74_25 : decode zxm74.2.1 25 = .ok (.getfield 32, 3) := by decide +kernel
theorem zd74_28 : decode zxm74.2.1 28 = .ok (.iload_n 2, 1) := by decide +kernel
theorem zd74_29 : decode zxm74.2.1 29 = .ok (.iastore, 1) := by decide +kernel
theorem zd74_30 : decode zxm74.2.1 30 = .ok (.aload_n 0, 1) := by decide +kernel
theorem zd74_31 : decode zxm74.2.1 31 = .ok (.getfield 26, 3) := by decide +kernel
theorem zd74_34 : decode zxm74.2.1 34 = .ok (.aload_n 0, 1) := by decide +kernel
theorem zd74_35 : decode zxm74.2.1 35 = .ok (.getfield 32, 3) := by decide +kernel
theorem zd74_38 : decode zxm74.2.1 38 = .ok (.iload_n 3, 1) := by decide +kernel
theorem zd74_39 : decode zxm74.2.1 39 = .ok (.iastore, 1) := by decide +kernel
theorem zd74_40 : decode zxm74.2.1 40 = .ok (.aload_n 0, 1) := by decide +kernel
theorem zd74_41 : decode zxm74.2.1 41 = .ok (.getfield 29, 3) := by decide +kernel
theorem zd74_44 : decode zxm74.2.1 44 = .ok (.aload_n 0, 1) := by decide +kernel
theorem zd74_45 : decode zxm74.2.1 45 = .ok (.getfield 32, 3) := by decide +kernel
theorem zd74_48 : decode zxm74.2.1 48 = .ok (.aload_n 0, 1) := by decide +kernel
theorem zd74_49 : decode zxm74.2.1 49 = .ok (.getfield 16, 3) := by decide +kernel
theorem zd74_52 : decode zxm74.2.1 52 = .ok (.iastore, 1) := by decide +kernel
theorem zd74_53 : decode zxm74.2.1 53 = .ok (.aload_n 0, 1) := by decide +kernel
theorem zd74_54 : decode zxm74.2.1 54 = .ok (.dup, 1) := by decide +kernel
theorem zd74_55 : decode zxm74.2.1 55 = .ok (.getfield 32, 3) := by decide +kernel
theorem zd74_58 : decode zxm74.2.1 58 = .ok (.iconst 1, 1) := by decide +kernel
theorem zd74_59 : decode zxm74.2.1 59 = .ok (.iadd, 1) := by decide +kernel
theorem zd74_60 : decode zxm74.2.1 60 = .ok (.putfield 32, 3) := by decide +kernel
theorem zd74_63 : decode zxm74.2.1 63 = .ok (.iload_n 1, 1) := by decide +kernel
theorem zd74_64 : decode zxm74.2.1 64 = .ok (.bipush 118, 2) := by decide +kernel
theorem zd74_66 : decode zxm74.2.1 66 = .ok (.if_icmp .ne 57, 3) := by decide +kernel
theorem zd74_69 : decode zxm74.2.1 69 = .ok (.aload_n 0, 1) := by decide +kernel
theorem zd74_70 : decode zxm74.2.1 70 = .ok (.iconst 1, 1) := by decide +kernel
theorem zd74_71 : decode zxm74.2.1 71 = .ok (.putfield 35, 3) := by decide +kernel
theorem zd74_74 : decode zxm74.2.1 74 = .ok (.aload_n 0, 1) := by decide +kernel
theorem zd74_75 : decode zxm74.2.1 75 = .ok (.aload_n 0, 1) := by decide +kernel
theorem zd74_76 : decode zxm74.2.1 76 = .ok (.getfield 42, 3) := by decide +kernel
theorem zd74_79 : decode zxm74.2.1 79 = .ok (.ifCond .ne 33, 3) := by decide +kernel
theorem zd74_82 : decode zxm74.2.1 82 = .ok (.aload_n 0, 1) := by decide +kernel
theorem zd74_83 : decode zxm74.2.1 83 = .ok (.iload_n 3, 1) := by decide +kernel
theorem zd74_84 : decode zxm74.2.1 84 = .ok (.bipush 10, 2) := by decide +kernel
theorem zd74_86 : decode zxm74.2.1 86 = .ok (.invokevirtual 65, 3) := by decide +kernel
theorem zd74_89 : decode zxm74.2.1 89 = .ok (.ifCond .ne 23, 3) := by decide +kernel
theorem zd74_92 : decode zxm74.2.1 92 = .ok (.aload_n 0, 1) := by decide +kernel
theorem zd74_93 : decode zxm74.2.1 93 = .ok (.iload_n 3, 1) := by decide +kernel
theorem zd74_94 : decode zxm74.2.1 94 = .ok (.bipush 11, 2) := by decide +kernel
theorem zd74_96 : decode zxm74.2.1 96 = .ok (.invokevirtual 65, 3) := by decide +kernel
theorem zd74_99 : decode zxm74.2.1 99 = .ok (.ifCond .ne 13, 3) := by decide +kernel
theorem zd74_102 : decode zxm74.2.1 102 = .ok (.aload_n 0, 1) := by decide +kernel
theorem zd74_103 : decode zxm74.2.1 103 = .ok (.iload_n 3, 1) := by decide +kernel
theorem zd74_104 : decode zxm74.2.1 104 = .ok (.bipush 12, 2) := by decide +kernel
theorem zd74_106 : decode zxm74.2.1 106 = .ok (.invokevirtual 65, 3) := by decide +kernel
theorem zd74_109 : decode zxm74.2.1 109 = .ok (.ifCond .eq 7, 3) := by decide +kernel
theorem zd74_112 : decode zxm74.2.1 112 = .ok (.iconst 1, 1) := by decide +kernel
theorem zd74_113 : decode zxm74.2.1 113 = .ok (.goto 4, 3) := by decide +kernel
theorem zd74_116 : decode zxm74.2.1 116 = .ok (.iconst 0, 1) := by decide +kernel
theorem zd74_117 : decode zxm74.2.1 117 = .ok (.putfield 42, 3) := by decide +kernel
theorem zd74_120 : decode zxm74.2.1 120 = .ok (.goto 50, 3) := by decide +kernel
theorem zd74_123 : decode zxm74.2.1 123 = .ok (.iload_n 1, 1) := by decide +kernel
theorem zd74_124 : decode zxm74.2.1 124 = .ok (.bipush 106, 2) := by decide +kernel
theorem zd74_126 : decode zxm74.2.1 126 = .ok (.if_icmp .ne 44, 3) := by decide +kernel
theorem zd74_129 : decode zxm74.2.1 129 = .ok (.aload_n 0, 1) := by decide +kernel
theorem zd74_130 : decode zxm74.2.1 130 = .ok (.iconst 1, 1) := by decide +kernel
theorem zd74_131 : decode zxm74.2.1 131 = .ok (.putfield 39, 3) := by decide +kernel
theorem zd74_134 : decode zxm74.2.1 134 = .ok (.aload_n 0, 1) := by decide +kernel
theorem zd74_135 : decode zxm74.2.1 135 = .ok (.aload_n 0, 1) := by decide +kernel
theorem zd74_136 : decode zxm74.2.1 136 = .ok (.getfield 45, 3) := by decide +kernel
theorem zd74_139 : decode zxm74.2.1 139 = .ok (.ifCond .ne 23, 3) := by decide +kernel
theorem zd74_142 : decode zxm74.2.1 142 = .ok (.aload_n 0, 1) := by decide +kernel
theorem zd74_143 : decode zxm74.2.1 143 = .ok (.iload_n 3, 1) := by decide +kernel
theorem zd74_144 : decode zxm74.2.1 144 = .ok (.bipush 10, 2) := by decide +kernel
theorem zd74_146 : decode zxm74.2.1 146 = .ok (.invokevirtual 65, 3) := by decide +kernel
theorem zd74_149 : decode zxm74.2.1 149 = .ok (.ifCond .ne 13, 3) := by decide +kernel
theorem zd74_152 : decode zxm74.2.1 152 = .ok (.aload_n 0, 1) := by decide +kernel
theorem zd74_153 : decode zxm74.2.1 153 = .ok (.iload_n 3, 1) := by decide +kernel
theorem zd74_154 : decode zxm74.2.1 154 = .ok (.bipush 11, 2) := by decide +kernel
theorem zd74_156 : decode zxm74.2.1 156 = .ok (.invokevirtual 65, 3) := by decide +kernel
theorem zd74_159 : decode zxm74.2.1 159 = .ok (.ifCond .eq 7, 3) := by decide +kernel
theorem zd74_162 : decode zxm74.2.1 162 = .ok (.iconst 1, 1) := by decide +kernel
theorem zd74_163 : decode zxm74.2.1 163 = .ok (.goto 4, 3) := by decide +kernel
theorem zd74_166 : decode zxm74.2.1 166 = .ok (.iconst 0, 1) := by decide +kernel
theorem zd74_167 : decode zxm74.2.1 167 = .ok (.putfield 45, 3) := by decide +kernel
theorem zd74_170 : decode zxm74.2.1 170 = .ok (.return_, 1) := by decide +kernel
theorem zh74 {kd u v : Int} : zn_OK z_TB z_cl z_KX zyL zxm74 (1, 60) (fun va F G => va = [.inr 1, .inl kd, .inl u, .inl v] ∧ F = a :: len :: fl :: st :: cs :: t1 :: t2 :: t3 :: t4 :: Fr ∧ G = text :: kinds :: vals :: ck :: af :: cf :: ce :: Gr ∧ 0 ≤ st ∧ st ≤ 200 ∧ 0 ≤ u ∧ u ≤ 200 ∧ 0 ≤ v ∧ v ≤ 200 ∧ zr_T cs t1 t2 t3 t4 ∧ zr_C af cf ce) (fun va F G r F' G' => r = none ∧ ∃ cs' t1' t2' t3' t4' ck' af' cf' ce', F' = a :: len :: fl :: st :: cs' :: t1' :: t2' :: t3' :: t4' :: Fr ∧ G' = text :: kinds :: vals :: ck' :: af' :: cf' :: ce' :: Gr ∧ zr_T cs' t1' t2' t3' t4' ∧ zr_C af' cf' ce') := zn_meth (K := zkW) (FT := z_FT) (MT := z_MT) (n := 4) zxp74 (z_ks2 _ (fun _ h => List.mem_cons_of_mem _ h) _ _ _ _ (fun j r h _ => by cases h)) (fun _ _ => zs_KX_p) (by decide +kernel) (fun va F G h => by obtain ⟨rfl, _⟩ := h; rfl) rfl fun good va F G hB hret hvret hP => by
  obtain ⟨rfl, rfl, rfl, h0, h1, h2, h3, h4, h5, ⟨⟨g1, g2⟩, hT⟩, hC⟩ := hP
  have hT2 := hT
  obtain ⟨⟨b1, b2⟩, ⟨b3, b4⟩, ⟨b5, b6⟩, ⟨b7, b8⟩⟩ := hT2
  refine zn_ald hB zd74_0 rfl rfl rfl ?_
  refine zn_getf hB zd74_1 rfl rfl (fun q1 r1 => ?_)
  refine zn_con hB zd74_4 rfl ?_
  refine zn_clt hB zd74_6 rfl (fun h6 => ?_) (fun h6 => ?_)
  · refine zn_ald hB zd74_10 rfl rfl rfl ?_
    refine zn_getr hB zd74_11 rfl ?_
    refine zn_ald hB zd74_14 rfl rfl rfl ?_
    refine zn_getf hB zd74_15 rfl rfl (fun q15 r15 => ?_)
    refine zn_ild hB zd74_18 rfl rfl ?_
    refine zn_iast hB zd74_19 rfl rfl (by omega) (by omega) ?_
    refine zn_ald hB zd74_20 rfl rfl rfl ?_
    refine zn_getr hB zd74_21 rfl ?_
    refine zn_ald hB zd74_24 rfl rfl rfl ?_
    refine zn_getf hB zd74_25 rfl rfl (fun q25 r25 => ?_)
    refine zn_ild hB zd74_28 rfl rfl ?_
    refine zn_iast hB zd74_29 rfl rfl (by omega) (by omega) ?_
    refine zn_ald hB zd74_30 rfl rfl rfl ?_
    refine zn_getr hB zd74_31 rfl ?_
    refine zn_ald hB zd74_34 rfl rfl rfl ?_
    refine zn_getf hB zd74_35 rfl rfl (fun q35 r35 => ?_)
    refine zn_ild hB zd74_38 rfl rfl ?_
    refine zn_iast hB zd74_39 rfl rfl (by omega) (by omega) ?_
    refine zn_ald hB zd74_40 rfl rfl rfl ?_
    refine zn_getr hB zd74_41 rfl ?_
    refine zn_ald hB zd74_44 rfl rfl rfl ?_
    refine zn_getf hB zd74_45 rfl rfl (fun q45 r45 => ?_)
    refine zn_ald hB zd74_48 rfl rfl rfl ?_
    refine zn_getf hB zd74_49 rfl rfl (fun q49 r49 => ?_)
    refine zn_iast hB zd74_52 rfl rfl (by omega) (by omega) ?_
    refine zn_ald hB zd74_53 rfl rfl rfl ?_
    refine zn_dup hB zd74_54 ?_
    refine zn_getf hB zd74_55 rfl rfl (fun q55 r55 => ?_)
    refine zn_con hB zd74_58 rfl ?_
    refine zn_iadd hB zd74_59 (by omega) (by omega) ?_
    refine zn_putf hB zd74_60 rfl rfl (fun h => by cases h) rfl ?_
    refine zn_ild hB zd74_63 rfl rfl ?_
    refine zn_con hB zd74_64 rfl ?_
    refine zn_cne hB zd74_66 rfl (fun h66 => ?_) (fun h66 => ?_)
    · refine zn_ild hB zd74_123 rfl rfl ?_
      refine zn_con hB zd74_124 rfl ?_
      refine zn_cne hB zd74_126 rfl (fun h126 => ?_) (fun h126 => ?_)
      · exact hvret _ _ _ _ zd74_170 trivial ⟨rfl, _, _, _, _, _, _, _, _, _, rfl, rfl, ⟨by omega, by omega, by omega, by omega, by omega⟩, zr_C_up hC (by omega) (by omega) (by omega)⟩
      · refine zn_ald hB zd74_129 rfl rfl rfl ?_
        refine zn_con hB zd74_130 rfl ?_
        refine zn_putf hB zd74_131 rfl rfl (fun _ => by omega) rfl ?_
        refine zn_ald hB zd74_134 rfl rfl rfl ?_
        refine zn_ald hB zd74_135 rfl rfl rfl ?_
        refine zn_getf hB zd74_136 rfl rfl (fun q136 r136 => ?_)
        refine zn_zne hB zd74_139 rfl (fun h139 => ?_) (fun h139 => ?_)
        · refine zn_con hB zd74_162 rfl ?_
          refine zn_goto hB zd74_163 rfl ?_
          refine zn_putf hB zd74_167 rfl rfl (fun _ => by omega) rfl ?_
          exact hvret _ _ _ _ zd74_170 trivial ⟨rfl, _, _, _, _, _, _, _, _, _, rfl, rfl, ⟨by omega, by omega, by omega, by omega, by omega⟩, zr_C_up hC (by omega) (by omega) (by omega)⟩
        · refine zn_ald hB zd74_142 rfl rfl rfl ?_
          refine zn_ild hB zd74_143 rfl rfl ?_
          refine zn_con hB zd74_144 rfl ?_
          refine zn_iv2 hB (zh75 (st := st)) zd74_146 zxt75 rfl ⟨rfl, rfl, rfl, by omega, by omega⟩ (fun r146 F146 G146 hq146 => ?_)
          obtain ⟨rfl, rfl, hx146⟩ := hq146
          rcases hx146 with rfl | rfl
          · refine zn_zne hB zd74_149 rfl (fun h149 => ?_) (fun h149 => ?_)
            · exfalso; omega
            · refine zn_ald hB zd74_152 rfl rfl rfl ?_
              refine zn_ild hB zd74_153 rfl rfl ?_
              refine zn_con hB zd74_154 rfl ?_
              refine zn_iv2 hB (zh75 (st := st)) zd74_156 zxt75 rfl ⟨rfl, rfl, rfl, by omega, by omega⟩ (fun r156 F156 G156 hq156 => ?_)
              obtain ⟨rfl, rfl, hx156⟩ := hq156
              rcases hx156 with rfl | rfl
              · refine zn_zeq hB zd74_159 rfl (fun h159 => ?_) (fun h159 => ?_)
                · refine zn_con hB zd74_166 rfl ?_
                  refine zn_putf hB zd74_167 rfl rfl (fun _ => by omega) rfl ?_
                  exact hvret _ _ _ _ zd74_170 trivial ⟨rfl, _, _, _, _, _, _, _, _, _, rfl, rfl, ⟨by omega, by omega, by omega, by omega, by omega⟩, zr_C_up hC (by omega) (by omega) (by omega)⟩
                · exfalso; omega
              · refine zn_zeq hB zd74_159 rfl (fun h159 => ?_) (fun h159 => ?_)
                · exfalso; omega
                · refine zn_con hB zd74_162 rfl ?_
                  refine zn_goto hB zd74_163 rfl ?_
                  refine zn_putf hB zd74_167 rfl rfl (fun _ => by omega) rfl ?_
                  exact hvret _ _ _ _ zd74_170 trivial ⟨rfl, _, _, _, _, _, _, _, _, _, rfl, rfl, ⟨by omega, by omega, by omega, by omega, by omega⟩, zr_C_up hC (by omega) (by omega) (by omega)⟩
          · refine zn_zne hB zd74_149 rfl (fun h149 => ?_) (fun h149 => ?_)
            · refine zn_con hB zd74_162 rfl ?_
              refine zn_goto hB zd74_163 rfl ?_
              refine zn_putf hB zd74_167 rfl rfl (fun _ => by omega) rfl ?_
              exact hvret _ _ _ _ zd74_170 trivial ⟨rfl, _, _, _, _, _, _, _, _, _, rfl, rfl, ⟨by omega, by omega, by omega, by omega, by omega⟩, zr_C_up hC (by omega) (by omega) (by omega)⟩
            · exfalso; omega
    · refine zn_ald hB zd74_69 rfl rfl rfl ?_
      refine zn_con hB zd74_70 rfl ?_
      refine zn_putf hB zd74_71 rfl rfl (fun _ => by omega) rfl ?_
      refine zn_ald hB zd74_74 rfl rfl rfl ?_
      refine zn_ald hB zd74_75 rfl rfl rfl ?_
      refine zn_getf hB zd74_76 rfl rfl (fun q76 r76 => ?_)
      refine zn_zne hB zd74_79 rfl (fun h79 => ?_) (fun h79 => ?_)
      · refine zn_con hB zd74_112 rfl ?_
        refine zn_goto hB zd74_113 rfl ?_
        refine zn_putf hB zd74_117 rfl rfl (fun _ => by omega) rfl ?_
        refine zn_goto hB zd74_120 rfl ?_
        exact hvret _ _ _ _ zd74_170 trivial ⟨rfl, _, _, _, _, _, _, _, _, _, rfl, rfl, ⟨by omega, by omega, by omega, by omega, by omega⟩, zr_C_up hC (by omega) (by omega) (by omega)⟩
      · refine zn_ald hB zd74_82 rfl rfl rfl ?_
        refine zn_ild hB zd74_83 rfl rfl ?_
        refine zn_con hB zd74_84 rfl ?_
        refine zn_iv2 hB (zh75 (st := st)) zd74_86 zxt75 rfl ⟨rfl, rfl, rfl, by omega, by omega⟩ (fun r86 F86 G86 hq86 => ?_)
        obtain ⟨rfl, rfl, hx86⟩ := hq86
        rcases hx86 with rfl | rfl
        · refine zn_zne hB zd74_89 rfl (fun h89 => ?_) (fun h89 => ?_)
          · exfalso; omega
          · refine zn_ald hB zd74_92 rfl rfl rfl ?_
            refine zn_ild hB zd74_93 rfl rfl ?_
            refine zn_con hB zd74_94 rfl ?_
            refine zn_iv2 hB (zh75 (st := st)) zd74_96 zxt75 rfl ⟨rfl, rfl, rfl, by omega, by omega⟩ (fun r96 F96 G96 hq96 => ?_)
            obtain ⟨rfl, rfl, hx96⟩ := hq96
            rcases hx96 with rfl | rfl
            · refine zn_zne hB zd74_99 rfl (fun h99 => ?_) (fun h99 => ?_)
              · exfalso; omega
              · refine zn_ald hB zd74_102 rfl rfl rfl ?_
                refine zn_ild hB zd74_103 rfl rfl ?_
                refine zn_con hB zd74_104 rfl ?_
                refine zn_iv2 hB (zh75 (st := st)) zd74_106 zxt75 rfl ⟨rfl, rfl, rfl, by omega, by omega⟩ (fun r106 F106 G106 hq106 => ?_)
                obtain ⟨rfl, rfl, hx106⟩ := hq106
                rcases hx106 with rfl | rfl
                · refine zn_zeq hB zd74_109 rfl (fun h109 => ?_) (fun h109 => ?_)
                  · refine zn_con hB zd74_116 rfl ?_
                    refine zn_putf hB zd74_117 rfl rfl (fun _ => by omega) rfl ?_
                    refine zn_goto hB zd74_120 rfl ?_
                    exact hvret _ _ _ _ zd74_170 trivial ⟨rfl, _, _, _, _, _, _, _, _, _, rfl, rfl, ⟨by omega, by omega, by omega, by omega, by omega⟩, zr_C_up hC (by omega) (by omega) (by omega)⟩
                  · exfalso; omega
                · refine zn_zeq hB zd74_109 rfl (fun h109 => ?_) (fun h109 => ?_)
                  · exfalso; omega
                  · refine zn_con hB zd74_112 rfl ?_
                    refine zn_goto hB zd74_113 rfl ?_
                    refine zn_putf hB zd74_117 rfl rfl (fun _ => by omega) rfl ?_
                    refine zn_goto hB zd74_120 rfl ?_
                    exact hvret _ _ _ _ zd74_170 trivial ⟨rfl, _, _, _, _, _, _, _, _, _, rfl, rfl, ⟨by omega, by omega, by omega, by omega, by omega⟩, zr_C_up hC (by omega) (by omega) (by omega)⟩
            · refine zn_zne hB zd74_99 rfl (fun h99 => ?_) (fun h99 => ?_)
              · refine zn_con hB zd74_112 rfl ?_
                refine zn_goto hB zd74_113 rfl ?_
                refine zn_putf hB zd74_117 rfl rfl (fun _ => by omega) rfl ?_
                refine zn_goto hB zd74_120 rfl ?_
                exact hvret _ _ _ _ zd74_170 trivial ⟨rfl, _, _, _, _, _, _, _, _, _, rfl, rfl, ⟨by omega, by omega, by omega, by omega, by omega⟩, zr_C_up hC (by omega) (by omega) (by omega)⟩
              · exfalso; omega
        · refine zn_zne hB zd74_89 rfl (fun h89 => ?_) (fun h89 => ?_)
          · refine zn_con hB zd74_112 rfl ?_
            refine zn_goto hB zd74_113 rfl ?_
            refine zn_putf hB zd74_117 rfl rfl (fun _ => by omega) rfl ?_
            refine zn_goto hB zd74_120 rfl ?_
            exact hvret _ _ _ _ zd74_170 trivial ⟨rfl, _, _, _, _, _, _, _, _, _, rfl, rfl, ⟨by omega, by omega, by omega, by omega, by omega⟩, zr_C_up hC (by omega) (by omega) (by omega)⟩
          · exfalso; omega
  · exact hvret _ _ _ _ zd74_9 trivial ⟨rfl, _, _, _, _, _, _, _, _, _, rfl, rfl, ⟨⟨g1, g2⟩, hT⟩, hC⟩
end ZLAWR0
