/-! How many ways: the search ends. -/
abbrev zyWa : zNL := (7, [(0, 12)], [(0, 12, 27, 0), (0, 12, 31, 1), (0, 12, 33, 2), (0, 12, 41, 3)], [(0, 12, 34, 1), (0, 12, 35, 2), (0, 12, 38, 3), (0, 12, 39, 4), (0, 12, 40, 5), (0, 12, 28, 6)], [(1, 0, 12, 0), (2, 0, 12, 1), (3, 0, 8, 2), (4, 0, 8, 3), (5, 0, 8, 4), (6, 0, 24, 5)])
/-- weights of places -/
def zw_w : Nat → Int
  | 0 => 1
  | j + 1 => 26 * zw_w j
theorem zw_w1 : ∀ {j : Nat}, 1 ≤ zw_w j
  | 0 => Int.le_refl _
  | j + 1 => by
    have := zw_w1 (j := j)
    show 1 ≤ 26 * zw_w j
    omega
/-- what is left to be searched: the first q + 1 places count -/
def zw_r (sf : Int → Int) : Nat → Int
  | 0 => (24 - sf 0) * zw_w 8
  | q + 1 => zw_r sf q + (24 - sf ((q + 1 : Nat) : Int)) * zw_w (7 - q)
theorem zw_r_cg {sf sf' : Int → Int} : ∀ {q : Nat}, (∀ j : Int, 0 ≤ j → j ≤ q → sf' j = sf j) → zw_r sf' q = zw_r sf q
  | 0, h => by
    show (24 - sf' 0) * _ = (24 - sf 0) * _
    rw [h 0 (by omega) (by omega)]
  | q + 1, h => by
    show zw_r sf' q + (24 - sf' ((q + 1 : Nat) : Int)) * _ = zw_r sf q + (24 - sf ((q + 1 : Nat) : Int)) * _
    rw [zw_r_cg (q := q) (fun j h1 h2 => h j h1 (by omega)), h _ (by omega) (by omega)]
theorem zw_r_nn {sf : Int → Int} : ∀ {q : Nat}, (∀ j : Int, 0 ≤ j → j ≤ q → sf j ≤ 24) → 0 ≤ zw_r sf q
  | 0, h => Int.mul_nonneg (by have := h 0 (by omega) (by omega); omega) (by have := zw_w1 (j := 8); omega)
  | q + 1, h => by
    have h1 := zw_r_nn (q := q) (fun j h1 h2 => h j h1 (by omega))
    have h2 : 0 ≤ (24 - sf ((q + 1 : Nat) : Int)) * zw_w (7 - q) := Int.mul_nonneg (by have := h ((q + 1 : Nat) : Int) (by omega) (by omega); omega) (by have := zw_w1 (j := 7 - q); omega)
    show 0 ≤ zw_r sf q + (24 - sf ((q + 1 : Nat) : Int)) * zw_w (7 - q)
    omega
/-- a place goes on -/
theorem zw_r_up {sf : Int → Int} {v : Int} : ∀ {q : Nat}, sf q + 1 ≤ v → zw_r (zn_up sf q v) q + zw_w (8 - q) ≤ zw_r sf q
  | 0, h => by
    show (24 - zn_up sf 0 v 0) * zw_w 8 + zw_w 8 ≤ (24 - sf 0) * zw_w 8
    rw [zn_up_s]
    have h : sf 0 + 1 ≤ v := h
    have e : (24 - v) * zw_w 8 + zw_w 8 = (25 - v) * zw_w 8 := by rw [show (25 : Int) - v = (24 - v) + 1 by omega, Int.add_mul]; omega
    rw [e]
    exact Int.mul_le_mul_of_nonneg_right (by omega) (by have := zw_w1 (j := 8); omega)
  | q + 1, h => by
    show zw_r (zn_up sf ((q + 1 : Nat) : Int) v) q + (24 - zn_up sf ((q + 1 : Nat) : Int) v ((q + 1 : Nat) : Int)) * zw_w (7 - q) + zw_w (8 - (q + 1)) ≤ zw_r sf q + (24 - sf ((q + 1 : Nat) : Int)) * zw_w (7 - q)
    rw [zn_up_s, zw_r_cg (sf := sf) (sf' := zn_up sf ((q + 1 : Nat) : Int) v) (fun j h1 h2 => zn_up_n (by omega)), show 8 - (q + 1) = 7 - q by omega]
    have e : (24 - v) * zw_w (7 - q) + zw_w (7 - q) = (25 - v) * zw_w (7 - q) := by rw [show (25 : Int) - v = (24 - v) + 1 by omega, Int.add_mul]; omega
    have := Int.mul_le_mul_of_nonneg_right (a := 25 - v) (b := 24 - sf ((q + 1 : Nat) : Int)) (c := zw_w (7 - q)) (by omega) (by have := zw_w1 (j := 7 - q); omega)
    omega
/-- a place more, from the start -/
theorem zw_r_next {sf : Int → Int} {q : Nat} (hq : q + 1 ≤ 7) : zw_r (zn_up sf ((q + 1 : Nat) : Int) (-1)) (q + 1) + 1 ≤ zw_r sf q + zw_w (8 - q) := by
  show zw_r (zn_up sf ((q + 1 : Nat) : Int) (-1)) q + (24 - zn_up sf ((q + 1 : Nat) : Int) (-1) ((q + 1 : Nat) : Int)) * zw_w (7 - q) + 1 ≤ zw_r sf q + zw_w (8 - q)
  rw [zn_up_s, zw_r_cg (sf := sf) (sf' := zn_up sf ((q + 1 : Nat) : Int) (-1)) (fun j h1 h2 => zn_up_n (by omega))]
  have e : 8 - q = (7 - q) + 1 := by omega
  rw [e]
  show zw_r sf q + (24 - -1) * zw_w (7 - q) + 1 ≤ zw_r sf q + 26 * zw_w (7 - q)
  have := zw_w1 (j := 7 - q)
  omega
/-- a place fewer -/
theorem zw_r_back {sf : Int → Int} {q : Nat} (h : sf ((q + 1 : Nat) : Int) ≤ 23) : zw_r sf q + 1 ≤ zw_r sf (q + 1) := by
  show zw_r sf q + 1 ≤ zw_r sf q + (24 - sf ((q + 1 : Nat) : Int)) * zw_w (7 - q)
  have h1 := zw_w1 (j := 7 - q)
  have := Int.mul_le_mul_of_nonneg_right (a := 1) (b := 24 - sf ((q + 1 : Nat) : Int)) (c := zw_w (7 - q)) (by omega) (by omega)
  omega
section ZWAYS
variable {s0 tl ni nm most : Int} {fn tn na sf ff lo : Int → Int} {Fr : List Int} {Gr : List (Int → Int)}
theorem zh204w {a b : Int} : zn_OK z_TB z_cl z_KX zyWa zxm204 (0, 0) (fun va F G => va = [.inl a, .inl b]) (fun va F G r F' G' => F' = F ∧ G' = G ∧ (r = some 0 ∨ r = some 1)) := zn_meth (K := zkM) (FT := z_FT) (MT := z_MT) (n := 2) zxp204 (z_ks13 _ (fun _ h => List.mem_cons_of_mem _ h) _ _ _ _ (fun j r h _ => by cases h)) (fun _ _ => zs_KX_p) (by decide +kernel) (fun va F G h => by obtain ⟨rfl, _⟩ := h; rfl) rfl fun good va F G hB hret hvret hP => by
  subst hP
  refine zn_ild hB zd204_0 rfl rfl ?_
  refine zn_ild hB zd204_1 rfl rfl ?_
  refine zn_any hB zd204_2 rfl (fun v2 q2 r2 => ?_)
  refine zn_con hB zd204_3 rfl ?_
  refine zn_and hB zd204_4 (by omega) (fun v4 q4 r4 => ?_)
  refine zn_con hB zd204_5 rfl ?_
  refine zn_cne hB zd204_6 rfl (fun h6 => ?_) (fun h6 => ?_)
  · refine zn_con hB zd204_13 rfl ?_
    refine hret _ _ _ _ _ zd204_14 (by constructor <;> decide) ⟨rfl, rfl, ?_⟩
    first | exact Or.inl rfl | exact Or.inr rfl
  · refine zn_con hB zd204_9 rfl ?_
    refine zn_goto hB zd204_10 rfl ?_
    refine hret _ _ _ _ _ zd204_14 (by constructor <;> decide) ⟨rfl, rfl, ?_⟩
    first | exact Or.inl rfl | exact Or.inr rfl
theorem zd269_0 : decode zxm269.2.1 0 = .ok (.aload_n 0, 1) := by decide +kernel
theorem zd269_1 : decode zxm269.2.1 1 = .ok (.iconst 0, 1) := by decide +kernel
theorem zd269_2 : decode zxm269.2.1 2 = .ok (.putfield 357, 3) := by decide +kernel
theorem zd269_5 : decode zxm269.2.1 5 = .ok (.iconst 0, 1) := by decide +kernel
theorem zd269_6 : decode zxm269.2.1 6 = .ok (.istore_n 1, 1) := by decide +kernel
theorem zd269_7 : decode zxm269.2.1 7 = .ok (.iload_n 1, 1) := by decide +kernel
theorem zd269_8 : decode zxm269.2.1 8 = .ok (.bipush 8, 2) := by decide +kernel
theorem zd269_10 : decode zxm269.2.1 10 = .ok (.if_icmp .ge 43, 3) := by decide +kernel
theorem zd269_13 : decode zxm269.2.1 13 = .ok (.aload_n 0, 1) := by decide +kernel
theorem zd269_14 : decode zxm269.2.1 14 = .ok (.getfield 354, 3) := by decide +kernel
theorem zd269_17 : decode zxm269.2.1 17 = .ok (.iload_n 1, 1) := by decide +kernel
theorem zd269_18 : decode zxm269.2.1 18 = .ok (.invokestatic 138, 3) := by decide +kernel
theorem zd269_21 : decode zxm269.2.1 21 = .ok (.ifCond .ne 6, 3) := by decide +kernel
theorem zd269_24 : decode zxm269.2.1 24 = .ok (.goto 23, 3) := by decide +kernel
theorem zd269_27 : decode zxm269.2.1 27 = .ok (.aload_n 0, 1) := by decide +kernel
theorem zd269_28 : decode zxm269.2.1 28 = .ok (.getfield 77, 3) := by decide +kernel
theorem zd269_31 : decode zxm269.2.1 31 = .ok (.aload_n 0, 1) := by decide +kernel
theorem zd269_32 : decode zxm269.2.1 32 = .ok (.getfield 357, 3) := by decide +kernel
theorem zd269_35 : decode zxm269.2.1 35 = .ok (.iload_n 1, 1) := by decide +kernel
theorem zd269_36 : decode zxm269.2.1 36 = .ok (.iastore, 1) := by decide +kernel
theorem zd269_37 : decode zxm269.2.1 37 = .ok (.aload_n 0, 1) := by decide +kernel
theorem zd269_38 : decode zxm269.2.1 38 = .ok (.aload_n 0, 1) := by decide +kernel
theorem zd269_39 : decode zxm269.2.1 39 = .ok (.getfield 357, 3) := by decide +kernel
theorem zd269_42 : decode zxm269.2.1 42 = .ok (.iconst 1, 1) := by decide +kernel
theorem zd269_43 : decode zxm269.2.1 43 = .ok (.iadd, 1) := by decide +kernel
theorem zd269_44 : decode zxm269.2.1 44 = .ok (.putfield 357, 3) := by decide +kernel
theorem zd269_47 : decode zxm269.2.1 47 = .ok (.iinc 1 1, 3) := by decide +kernel
theorem zd269_50 : decode zxm269.2.1 50 = .ok (.goto (-43), 3) := by decide +kernel
theorem zd269_53 : decode zxm269.2.1 53 = .ok (.return_, 1) := by decide +kernel
theorem zh269  : zn_OK z_TB z_cl z_KX zyWa zxm269 (1, 60) (fun va F G => va = [.inr 0] ∧ F = s0 :: tl :: ni :: nm :: Fr ∧ G = fn :: tn :: na :: sf :: ff :: lo :: Gr ∧ ∀ j, 0 ≤ j → j < 8 → 0 ≤ na j ∧ na j ≤ 7) (fun va F G r F' G' => r = none ∧ ∃ nm' na', F' = s0 :: tl :: ni :: nm' :: Fr ∧ G' = fn :: tn :: na' :: sf :: ff :: lo :: Gr ∧ 0 ≤ nm' ∧ nm' ≤ 8 ∧ ∀ j, 0 ≤ j → j < 8 → 0 ≤ na' j ∧ na' j ≤ 7) := zn_meth (K := zkM) (FT := z_FT) (MT := z_MT) (n := 1) zxp269 (z_ks13 _ (fun _ h => List.mem_cons_of_mem _ h) _ _ _ _ (fun j r h _ => by cases h)) (fun _ _ => zs_KX_p) (by decide +kernel) (fun va F G h => by obtain ⟨rfl, _⟩ := h; rfl) rfl fun good va F G hB hret hvret hP => by
  obtain ⟨rfl, rfl, rfl, hn⟩ := hP
  have key : ∀ (m : Nat) (a nm : Int) (na : Int → Int), 8 - a < m → 0 ≤ a → a ≤ 8 → 0 ≤ nm → nm ≤ a → (∀ j, 0 ≤ j → j < 8 → 0 ≤ na j ∧ na j ≤ 7) → good 7 [.inr 0, .inl a] [] (s0 :: tl :: ni :: nm :: Fr) (fn :: tn :: na :: sf :: ff :: lo :: Gr) := by
    intro m
    induction m with
    | zero =>
      intro a nm na c1 c2 c3 c4 c5 c6
      exfalso; omega
    | succ m ih =>
      intro a nm na c1 c2 c3 c4 c5 c6
      refine zn_ild hB zd269_7 rfl rfl ?_
      refine zn_con hB zd269_8 rfl ?_
      refine zn_cge hB zd269_10 rfl (fun h10 => ?_) (fun h10 => ?_)
      · exact hvret _ _ _ _ zd269_53 trivial ⟨rfl, _, _, rfl, rfl, c4, by omega, c6⟩
      · refine zn_ald hB zd269_13 rfl rfl rfl ?_
        refine zn_getf hB zd269_14 rfl rfl (fun q14 r14 => ?_)
        refine zn_ild hB zd269_17 rfl rfl ?_
        refine zn_it2 hB zh204w zd269_18 zxt204 rfl rfl (fun r18 F18 G18 hq18 => ?_)
        obtain ⟨rfl, rfl, hx18⟩ := hq18
        rcases hx18 with rfl | rfl
        · refine zn_zne hB zd269_21 rfl (fun h21 => ?_) (fun h21 => ?_)
          · exfalso; omega
          · refine zn_goto hB zd269_24 rfl ?_
            refine zn_iinc hB zd269_47 rfl rfl (by omega) (by omega) ?_
            refine zn_goto hB zd269_50 rfl ?_
            first | exact ih _ _ _ (by omega) (by omega) (by omega) c4 (by omega) c6 | (refine ih _ _ _ (by omega) (by omega) (by omega) (by omega) (by omega) (fun j j1 j2 => ?_); by_cases e : j = nm; exact (by rw [e, zn_up_s]; omega); exact (by rw [zn_up_n e]; exact c6 j j1 j2))
        · refine zn_zne hB zd269_21 rfl (fun h21 => ?_) (fun h21 => ?_)
          · refine zn_ald hB zd269_27 rfl rfl rfl ?_
            refine zn_getr hB zd269_28 rfl ?_
            refine zn_ald hB zd269_31 rfl rfl rfl ?_
            refine zn_getf hB zd269_32 rfl rfl (fun q32 r32 => ?_)
            refine zn_ild hB zd269_35 rfl rfl ?_
            refine zn_iast hB zd269_36 rfl rfl (by omega) (by omega) ?_
            refine zn_ald hB zd269_37 rfl rfl rfl ?_
            refine zn_ald hB zd269_38 rfl rfl rfl ?_
            refine zn_getf hB zd269_39 rfl rfl (fun q39 r39 => ?_)
            refine zn_con hB zd269_42 rfl ?_
            refine zn_iadd hB zd269_43 (by omega) (by omega) ?_
            refine zn_putf hB zd269_44 rfl rfl (fun h => by cases h) rfl ?_
            refine zn_iinc hB zd269_47 rfl rfl (by omega) (by omega) ?_
            refine zn_goto hB zd269_50 rfl ?_
            first | exact ih _ _ _ (by omega) (by omega) (by omega) c4 (by omega) c6 | (refine ih _ _ _ (by omega) (by omega) (by omega) (by omega) (by omega) (fun j j1 j2 => ?_); by_cases e : j = nm; exact (by rw [e, zn_up_s]; omega); exact (by rw [zn_up_n e]; exact c6 j j1 j2))
          · exfalso; omega
  refine zn_ald hB zd269_0 rfl rfl rfl ?_
  refine zn_con hB zd269_1 rfl ?_
  refine zn_putf hB zd269_2 rfl rfl (fun h => by cases h) rfl ?_
  refine zn_con hB zd269_5 rfl ?_
  refine zn_ist hB zd269_6 rfl rfl rfl ?_
  exact key 9 0 0 _ (by omega) (by omega) (by omega) (by omega) (by omega) hn
theorem zd270_0 : decode zxm270.2.1 0 = .ok (.iconst 0, 1) := by decide +kernel
theorem zd270_1 : decode zxm270.2.1 1 = .ok (.istore_n 3, 1) := by decide +kernel
theorem zd270_2 : decode zxm270.2.1 2 = .ok (.iload_n 3, 1) := by decide +kernel
theorem zd270_3 : decode zxm270.2.1 3 = .ok (.iload_n 1, 1) := by decide +kernel
theorem zd270_4 : decode zxm270.2.1 4 = .ok (.if_icmp .ge 135, 3) := by decide +kernel
theorem zd270_7 : decode zxm270.2.1 7 = .ok (.aload_n 0, 1) := by decide +kernel
theorem zd270_8 : decode zxm270.2.1 8 = .ok (.getfield 80, 3) := by decide +kernel
theorem zd270_11 : decode zxm270.2.1 11 = .ok (.iload_n 3, 1) := by decide +kernel
theorem zd270_12 : decode zxm270.2.1 12 = .ok (.iaload, 1) := by decide +kernel
theorem zd270_13 : decode zxm270.2.1 13 = .ok (.iload_n 2, 1) := by decide +kernel
theorem zd270_14 : decode zxm270.2.1 14 = .ok (.if_icmp .ne 5, 3) := by decide +kernel
theorem zd270_17 : decode zxm270.2.1 17 = .ok (.iconst 0, 1) := by decide +kernel
theorem zd270_18 : decode zxm270.2.1 18 = .ok (.ireturn, 1) := by decide +kernel
theorem zd270_19 : decode zxm270.2.1 19 = .ok (.iconst 0, 1) := by decide +kernel
theorem zd270_20 : decode zxm270.2.1 20 = .ok (.istore 4, 2) := by decide +kernel
theorem zd270_22 : decode zxm270.2.1 22 = .ok (.iload 4, 2) := by decide +kernel
theorem zd270_24 : decode zxm270.2.1 24 = .ok (.aload_n 0, 1) := by decide +kernel
theorem zd270_25 : decode zxm270.2.1 25 = .ok (.getfield 351, 3) := by decide +kernel
theorem zd270_28 : decode zxm270.2.1 28 = .ok (.if_icmp .ge 105, 3) := by decide +kernel
theorem zd270_31 : decode zxm270.2.1 31 = .ok (.aload_n 0, 1) := by decide +kernel
theorem zd270_32 : decode zxm270.2.1 32 = .ok (.getfield 65, 3) := by decide +kernel
theorem zd270_35 : decode zxm270.2.1 35 = .ok (.iload 4, 2) := by decide +kernel
theorem zd270_37 : decode zxm270.2.1 37 = .ok (.iaload, 1) := by decide +kernel
theorem zd270_38 : decode zxm270.2.1 38 = .ok (.aload_n 0, 1) := by decide +kernel
theorem zd270_39 : decode zxm270.2.1 39 = .ok (.getfield 77, 3) := by decide +kernel
theorem zd270_42 : decode zxm270.2.1 42 = .ok (.iload_n 3, 1) := by decide +kernel
theorem zd270_43 : decode zxm270.2.1 43 = .ok (.iaload, 1) := by decide +kernel
theorem zd270_44 : decode zxm270.2.1 44 = .ok (.if_icmp .ne 19, 3) := by decide +kernel
theorem zd270_47 : decode zxm270.2.1 47 = .ok (.aload_n 0, 1) := by decide +kernel
theorem zd270_48 : decode zxm270.2.1 48 = .ok (.getfield 68, 3) := by decide +kernel
theorem zd270_51 : decode zxm270.2.1 51 = .ok (.iload 4, 2) := by decide +kernel
theorem zd270_53 : decode zxm270.2.1 53 = .ok (.iaload, 1) := by decide +kernel
theorem zd270_54 : decode zxm270.2.1 54 = .ok (.aload_n 0, 1) := by decide +kernel
theorem zd270_55 : decode zxm270.2.1 55 = .ok (.getfield 77, 3) := by decide +kernel
theorem zd270_58 : decode zxm270.2.1 58 = .ok (.iload_n 1, 1) := by decide +kernel
theorem zd270_59 : decode zxm270.2.1 59 = .ok (.iaload, 1) := by decide +kernel
theorem zd270_60 : decode zxm270.2.1 60 = .ok (.if_icmp .eq 35, 3) := by decide +kernel
theorem zd270_63 : decode zxm270.2.1 63 = .ok (.aload_n 0, 1) := by decide +kernel
theorem zd270_64 : decode zxm270.2.1 64 = .ok (.getfield 65, 3) := by decide +kernel
theorem zd270_67 : decode zxm270.2.1 67 = .ok (.iload 4, 2) := by decide +kernel
theorem zd270_69 : decode zxm270.2.1 69 = .ok (.iaload, 1) := by decide +kernel
theorem zd270_70 : decode zxm270.2.1 70 = .ok (.aload_n 0, 1) := by decide +kernel
theorem zd270_71 : decode zxm270.2.1 71 = .ok (.getfield 77, 3) := by decide +kernel
theorem zd270_74 : decode zxm270.2.1 74 = .ok (.iload_n 1, 1) := by decide +kernel
theorem zd270_75 : decode zxm270.2.1 75 = .ok (.iaload, 1) := by decide +kernel
theorem zd270_76 : decode zxm270.2.1 76 = .ok (.if_icmp .ne 23, 3) := by decide +kernel
theorem zd270_79 : decode zxm270.2.1 79 = .ok (.aload_n 0, 1) := by decide +kernel
theorem zd270_80 : decode zxm270.2.1 80 = .ok (.getfield 68, 3) := by decide +kernel
theorem zd270_83 : decode zxm270.2.1 83 = .ok (.iload 4, 2) := by decide +kernel
theorem zd270_85 : decode zxm270.2.1 85 = .ok (.iaload, 1) := by decide +kernel
theorem zd270_86 : decode zxm270.2.1 86 = .ok (.aload_n 0, 1) := by decide +kernel
theorem zd270_87 : decode zxm270.2.1 87 = .ok (.getfield 77, 3) := by decide +kernel
theorem zd270_90 : decode zxm270.2.1 90 = .ok (.iload_n 3, 1) := by decide +kernel
theorem zd270_91 : decode zxm270.2.1 91 = .ok (.iaload, 1) := by decide +kernel
theorem zd270_92 : decode zxm270.2.1 92 = .ok (.if_icmp .ne 7, 3) := by decide +kernel
theorem zd270_95 : decode zxm270.2.1 95 = .ok (.iconst 1, 1) := by decide +kernel
theorem zd270_96 : decode zxm270.2.1 96 = .ok (.goto 4, 3) := by decide +kernel
theorem zd270_99 : decode zxm270.2.1 99 = .ok (.iconst 0, 1) := by decide +kernel
theorem zd270_100 : decode zxm270.2.1 100 = .ok (.istore 5, 2) := by decide +kernel
theorem zd270_102 : decode zxm270.2.1 102 = .ok (.iload 5, 2) := by decide +kernel
theorem zd270_104 : decode zxm270.2.1 104 = .ok (.ifCond .eq 23, 3) := by decide +kernel
theorem zd270_107 : decode zxm270.2.1 107 = .ok (.aload_n 0, 1) := by decide +kernel
theorem zd270_108 : decode zxm270.2.1 108 = .ok (.getfield 62, 3) := by decide +kernel
theorem zd270_111 : decode zxm270.2.1 111 = .ok (.iload_n 2, 1) := by decide +kernel
theorem zd270_112 : decode zxm270.2.1 112 = .ok (.iaload, 1) := by decide +kernel
theorem zd270_113 : decode zxm270.2.1 113 = .ok (.aload_n 0, 1) := by decide +kernel
theorem zd270_114 : decode zxm270.2.1 114 = .ok (.getfield 80, 3) := by decide +kernel
theorem zd270_117 : decode zxm270.2.1 117 = .ok (.iload_n 3, 1) := by decide +kernel
theorem zd270_118 : decode zxm270.2.1 118 = .ok (.iaload, 1) := by decide +kernel
theorem zd270_119 : decode zxm270.2.1 119 = .ok (.invokestatic 138, 3) := by decide +kernel
theorem zd270_122 : decode zxm270.2.1 122 = .ok (.ifCond .ne 5, 3) := by decide +kernel
theorem zd270_125 : decode zxm270.2.1 125 = .ok (.iconst 0, 1) := by decide +kernel
theorem zd270_126 : decode zxm270.2.1 126 = .ok (.ireturn, 1) := by decide +kernel
theorem zd270_127 : decode zxm270.2.1 127 = .ok (.iinc 4 1, 3) := by decide +kernel
theorem zd270_130 : decode zxm270.2.1 130 = .ok (.goto (-108), 3) := by decide +kernel
theorem zd270_133 : decode zxm270.2.1 133 = .ok (.iinc 3 1, 3) := by decide +kernel
theorem zd270_136 : decode zxm270.2.1 136 = .ok (.goto (-134), 3) := by decide +kernel
theorem zd270_139 : decode zxm270.2.1 139 = .ok (.iconst 1, 1) := by decide +kernel
theorem zd270_140 : decode zxm270.2.1 140 = .ok (.ireturn, 1) := by decide +kernel
theorem zh270 {q star : Int} : zn_OK z_TB z_cl z_KX zyWa zxm270 (1, 60) (fun va F G => va = [.inr 0, .inl q, .inl star] ∧ F = s0 :: tl :: ni :: nm :: Fr ∧ G = fn :: tn :: na :: sf :: ff :: lo :: Gr ∧ 0 ≤ q ∧ q < 8 ∧ 0 ≤ star ∧ star < 24 ∧ 0 ≤ tl ∧ tl ≤ 12) (fun va F G r F' G' => F' = F ∧ G' = G ∧ (r = some 0 ∨ r = some 1)) := zn_meth (K := zkM) (FT := z_FT) (MT := z_MT) (n := 3) zxp270 (z_ks13 _ (fun _ h => List.mem_cons_of_mem _ h) _ _ _ _ (fun j r h _ => by cases h)) (fun _ _ => zs_KX_p) (by decide +kernel) (fun va F G h => by obtain ⟨rfl, _⟩ := h; rfl) rfl fun good va F G hB hret hvret hP => by
  obtain ⟨rfl, rfl, rfl, h0, h1, h2, h3, h4, h5⟩ := hP
  have key : ∀ (m : Nat), (∀ (p : Int) (x y : zNV), 20 * (q - p) < m → 0 ≤ p → good 2 [.inr 0, .inl q, .inl star, .inl p, x, y] [] (s0 :: tl :: ni :: nm :: Fr) (fn :: tn :: na :: sf :: ff :: lo :: Gr)) ∧ (∀ (p k : Int) (x : zNV), 20 * (q - p) - 1 - k < m → 0 ≤ k → k ≤ 12 → 0 ≤ p → p < q → good 22 [.inr 0, .inl q, .inl star, .inl p, .inl k, x] [] (s0 :: tl :: ni :: nm :: Fr) (fn :: tn :: na :: sf :: ff :: lo :: Gr)) := by
    intro m
    induction m with
    | zero =>
      constructor
      · intro p x y c1 c2
        refine zn_ild hB zd270_2 rfl rfl ?_
        refine zn_ild hB zd270_3 rfl rfl ?_
        refine zn_cge hB zd270_4 rfl (fun h4 => ?_) (fun h4 => ?_)
        · refine zn_con hB zd270_139 rfl ?_
          refine hret _ _ _ _ _ zd270_140 (by constructor <;> decide) ⟨rfl, rfl, ?_⟩
          first | exact Or.inl rfl | exact Or.inr rfl
        · exfalso; omega
      · intro p k x c1 c2 c3 c4 c5
        exfalso; omega
    | succ m ih =>
      constructor
      · intro p x y c1 c2
        refine zn_ild hB zd270_2 rfl rfl ?_
        refine zn_ild hB zd270_3 rfl rfl ?_
        refine zn_cge hB zd270_4 rfl (fun h4 => ?_) (fun h4 => ?_)
        · refine zn_con hB zd270_139 rfl ?_
          refine hret _ _ _ _ _ zd270_140 (by constructor <;> decide) ⟨rfl, rfl, ?_⟩
          first | exact Or.inl rfl | exact Or.inr rfl
        · refine zn_ald hB zd270_7 rfl rfl rfl ?_
          refine zn_getr hB zd270_8 rfl ?_
          refine zn_ild hB zd270_11 rfl rfl ?_
          refine zn_iald hB zd270_12 rfl rfl (by omega) (by omega) (fun q12 r12 => ?_)
          refine zn_ild hB zd270_13 rfl rfl ?_
          refine zn_cne hB zd270_14 rfl (fun h14 => ?_) (fun h14 => ?_)
          · refine zn_con hB zd270_19 rfl ?_
            refine zn_ist hB zd270_20 rfl rfl rfl ?_
            exact ih.2 _ _ _ (by omega) (by omega) (by omega) c2 (by omega)
          · refine zn_con hB zd270_17 rfl ?_
            refine hret _ _ _ _ _ zd270_18 (by constructor <;> decide) ⟨rfl, rfl, ?_⟩
            first | exact Or.inl rfl | exact Or.inr rfl
      · intro p k x c1 c2 c3 c4 c5
        refine zn_ild hB zd270_22 rfl rfl ?_
        refine zn_ald hB zd270_24 rfl rfl rfl ?_
        refine zn_getf hB zd270_25 rfl rfl (fun q25 r25 => ?_)
        refine zn_cge hB zd270_28 rfl (fun h28 => ?_) (fun h28 => ?_)
        · refine zn_iinc hB zd270_133 rfl rfl (by omega) (by omega) ?_
          refine zn_goto hB zd270_136 rfl ?_
          exact ih.1 _ _ _ (by omega) (by omega)
        · refine zn_ald hB zd270_31 rfl rfl rfl ?_
          refine zn_getr hB zd270_32 rfl ?_
          refine zn_ild hB zd270_35 rfl rfl ?_
          refine zn_iald hB zd270_37 rfl rfl (by omega) (by omega) (fun q37 r37 => ?_)
          refine zn_ald hB zd270_38 rfl rfl rfl ?_
          refine zn_getr hB zd270_39 rfl ?_
          refine zn_ild hB zd270_42 rfl rfl ?_
          refine zn_iald hB zd270_43 rfl rfl (by omega) (by omega) (fun q43 r43 => ?_)
          refine zn_cne hB zd270_44 rfl (fun h44 => ?_) (fun h44 => ?_)
          · refine zn_ald hB zd270_63 rfl rfl rfl ?_
            refine zn_getr hB zd270_64 rfl ?_
            refine zn_ild hB zd270_67 rfl rfl ?_
            refine zn_iald hB zd270_69 rfl rfl (by omega) (by omega) (fun q69 r69 => ?_)
            refine zn_ald hB zd270_70 rfl rfl rfl ?_
            refine zn_getr hB zd270_71 rfl ?_
            refine zn_ild hB zd270_74 rfl rfl ?_
            refine zn_iald hB zd270_75 rfl rfl (by omega) (by omega) (fun q75 r75 => ?_)
            refine zn_cne hB zd270_76 rfl (fun h76 => ?_) (fun h76 => ?_)
            · refine zn_con hB zd270_99 rfl ?_
              refine zn_ist hB zd270_100 rfl rfl rfl ?_
              refine zn_ild hB zd270_102 rfl rfl ?_
              refine zn_zeq hB zd270_104 rfl (fun h104 => ?_) (fun h104 => ?_)
              · refine zn_iinc hB zd270_127 rfl rfl (by omega) (by omega) ?_
                refine zn_goto hB zd270_130 rfl ?_
                exact ih.2 _ _ _ (by omega) (by omega) (by omega) c4 c5
              · refine zn_ald hB zd270_107 rfl rfl rfl ?_
                refine zn_getr hB zd270_108 rfl ?_
                refine zn_ild hB zd270_111 rfl rfl ?_
                refine zn_iald hB zd270_112 rfl rfl (by omega) (by omega) (fun q112 r112 => ?_)
                refine zn_ald hB zd270_113 rfl rfl rfl ?_
                refine zn_getr hB zd270_114 rfl ?_
                refine zn_ild hB zd270_117 rfl rfl ?_
                refine zn_iald hB zd270_118 rfl rfl (by omega) (by omega) (fun q118 r118 => ?_)
                refine zn_it2 hB zh204w zd270_119 zxt204 rfl rfl (fun r119 F119 G119 hq119 => ?_)
                obtain ⟨rfl, rfl, hx119⟩ := hq119
                rcases hx119 with rfl | rfl
                · refine zn_zne hB zd270_122 rfl (fun h122 => ?_) (fun h122 => ?_)
                  · exfalso; omega
                  · refine zn_con hB zd270_125 rfl ?_
                    refine hret _ _ _ _ _ zd270_126 (by constructor <;> decide) ⟨rfl, rfl, ?_⟩
                    first | exact Or.inl rfl | exact Or.inr rfl
                · refine zn_zne hB zd270_122 rfl (fun h122 => ?_) (fun h122 => ?_)
                  · refine zn_iinc hB zd270_127 rfl rfl (by omega) (by omega) ?_
                    refine zn_goto hB zd270_130 rfl ?_
                    exact ih.2 _ _ _ (by omega) (by omega) (by omega) c4 c5
                  · exfalso; omega
            · refine zn_ald hB zd270_79 rfl rfl rfl ?_
              refine zn_getr hB zd270_80 rfl ?_
              refine zn_ild hB zd270_83 rfl rfl ?_
              refine zn_iald hB zd270_85 rfl rfl (by omega) (by omega) (fun q85 r85 => ?_)
              refine zn_ald hB zd270_86 rfl rfl rfl ?_
              refine zn_getr hB zd270_87 rfl ?_
              refine zn_ild hB zd270_90 rfl rfl ?_
              refine zn_iald hB zd270_91 rfl rfl (by omega) (by omega) (fun q91 r91 => ?_)
              refine zn_cne hB zd270_92 rfl (fun h92 => ?_) (fun h92 => ?_)
              · refine zn_con hB zd270_99 rfl ?_
                refine zn_ist hB zd270_100 rfl rfl rfl ?_
                refine zn_ild hB zd270_102 rfl rfl ?_
                refine zn_zeq hB zd270_104 rfl (fun h104 => ?_) (fun h104 => ?_)
                · refine zn_iinc hB zd270_127 rfl rfl (by omega) (by omega) ?_
                  refine zn_goto hB zd270_130 rfl ?_
                  exact ih.2 _ _ _ (by omega) (by omega) (by omega) c4 c5
                · refine zn_ald hB zd270_107 rfl rfl rfl ?_
                  refine zn_getr hB zd270_108 rfl ?_
                  refine zn_ild hB zd270_111 rfl rfl ?_
                  refine zn_iald hB zd270_112 rfl rfl (by omega) (by omega) (fun q112 r112 => ?_)
                  refine zn_ald hB zd270_113 rfl rfl rfl ?_
                  refine zn_getr hB zd270_114 rfl ?_
                  refine zn_ild hB zd270_117 rfl rfl ?_
                  refine zn_iald hB zd270_118 rfl rfl (by omega) (by omega) (fun q118 r118 => ?_)
                  refine zn_it2 hB zh204w zd270_119 zxt204 rfl rfl (fun r119 F119 G119 hq119 => ?_)
                  obtain ⟨rfl, rfl, hx119⟩ := hq119
                  rcases hx119 with rfl | rfl
                  · refine zn_zne hB zd270_122 rfl (fun h122 => ?_) (fun h122 => ?_)
                    · exfalso; omega
                    · refine zn_con hB zd270_125 rfl ?_
                      refine hret _ _ _ _ _ zd270_126 (by constructor <;> decide) ⟨rfl, rfl, ?_⟩
                      first | exact Or.inl rfl | exact Or.inr rfl
                  · refine zn_zne hB zd270_122 rfl (fun h122 => ?_) (fun h122 => ?_)
                    · refine zn_iinc hB zd270_127 rfl rfl (by omega) (by omega) ?_
                      refine zn_goto hB zd270_130 rfl ?_
                      exact ih.2 _ _ _ (by omega) (by omega) (by omega) c4 c5
                    · exfalso; omega
              · refine zn_con hB zd270_95 rfl ?_
                refine zn_goto hB zd270_96 rfl ?_
                refine zn_ist hB zd270_100 rfl rfl rfl ?_
                refine zn_ild hB zd270_102 rfl rfl ?_
                refine zn_zeq hB zd270_104 rfl (fun h104 => ?_) (fun h104 => ?_)
                · refine zn_iinc hB zd270_127 rfl rfl (by omega) (by omega) ?_
                  refine zn_goto hB zd270_130 rfl ?_
                  exact ih.2 _ _ _ (by omega) (by omega) (by omega) c4 c5
                · refine zn_ald hB zd270_107 rfl rfl rfl ?_
                  refine zn_getr hB zd270_108 rfl ?_
                  refine zn_ild hB zd270_111 rfl rfl ?_
                  refine zn_iald hB zd270_112 rfl rfl (by omega) (by omega) (fun q112 r112 => ?_)
                  refine zn_ald hB zd270_113 rfl rfl rfl ?_
                  refine zn_getr hB zd270_114 rfl ?_
                  refine zn_ild hB zd270_117 rfl rfl ?_
                  refine zn_iald hB zd270_118 rfl rfl (by omega) (by omega) (fun q118 r118 => ?_)
                  refine zn_it2 hB zh204w zd270_119 zxt204 rfl rfl (fun r119 F119 G119 hq119 => ?_)
                  obtain ⟨rfl, rfl, hx119⟩ := hq119
                  rcases hx119 with rfl | rfl
                  · refine zn_zne hB zd270_122 rfl (fun h122 => ?_) (fun h122 => ?_)
                    · exfalso; omega
                    · refine zn_con hB zd270_125 rfl ?_
                      refine hret _ _ _ _ _ zd270_126 (by constructor <;> decide) ⟨rfl, rfl, ?_⟩
                      first | exact Or.inl rfl | exact Or.inr rfl
                  · refine zn_zne hB zd270_122 rfl (fun h122 => ?_) (fun h122 => ?_)
                    · refine zn_iinc hB zd270_127 rfl rfl (by omega) (by omega) ?_
                      refine zn_goto hB zd270_130 rfl ?_
                      exact ih.2 _ _ _ (by omega) (by omega) (by omega) c4 c5
                    · exfalso; omega
          · refine zn_ald hB zd270_47 rfl rfl rfl ?_
            refine zn_getr hB zd270_48 rfl ?_
            refine zn_ild hB zd270_51 rfl rfl ?_
            refine zn_iald hB zd270_53 rfl rfl (by omega) (by omega) (fun q53 r53 => ?_)
            refine zn_ald hB zd270_54 rfl rfl rfl ?_
            refine zn_getr hB zd270_55 rfl ?_
            refine zn_ild hB zd270_58 rfl rfl ?_
            refine zn_iald hB zd270_59 rfl rfl (by omega) (by omega) (fun q59 r59 => ?_)
            refine zn_ceq hB zd270_60 rfl (fun h60 => ?_) (fun h60 => ?_)
            · refine zn_con hB zd270_95 rfl ?_
              refine zn_goto hB zd270_96 rfl ?_
              refine zn_ist hB zd270_100 rfl rfl rfl ?_
              refine zn_ild hB zd270_102 rfl rfl ?_
              refine zn_zeq hB zd270_104 rfl (fun h104 => ?_) (fun h104 => ?_)
              · refine zn_iinc hB zd270_127 rfl rfl (by omega) (by omega) ?_
                refine zn_goto hB zd270_130 rfl ?_
                exact ih.2 _ _ _ (by omega) (by omega) (by omega) c4 c5
              · refine zn_ald hB zd270_107 rfl rfl rfl ?_
                refine zn_getr hB zd270_108 rfl ?_
                refine zn_ild hB zd270_111 rfl rfl ?_
                refine zn_iald hB zd270_112 rfl rfl (by omega) (by omega) (fun q112 r112 => ?_)
                refine zn_ald hB zd270_113 rfl rfl rfl ?_
                refine zn_getr hB zd270_114 rfl ?_
                refine zn_ild hB zd270_117 rfl rfl ?_
                refine zn_iald hB zd270_118 rfl rfl (by omega) (by omega) (fun q118 r118 => ?_)
                refine zn_it2 hB zh204w zd270_119 zxt204 rfl rfl (fun r119 F119 G119 hq119 => ?_)
                obtain ⟨rfl, rfl, hx119⟩ := hq119
                rcases hx119 with rfl | rfl
                · refine zn_zne hB zd270_122 rfl (fun h122 => ?_) (fun h122 => ?_)
                  · exfalso; omega
                  · refine zn_con hB zd270_125 rfl ?_
                    refine hret _ _ _ _ _ zd270_126 (by constructor <;> decide) ⟨rfl, rfl, ?_⟩
                    first | exact Or.inl rfl | exact Or.inr rfl
                · refine zn_zne hB zd270_122 rfl (fun h122 => ?_) (fun h122 => ?_)
                  · refine zn_iinc hB zd270_127 rfl rfl (by omega) (by omega) ?_
                    refine zn_goto hB zd270_130 rfl ?_
                    exact ih.2 _ _ _ (by omega) (by omega) (by omega) c4 c5
                  · exfalso; omega
            · refine zn_ald hB zd270_63 rfl rfl rfl ?_
              refine zn_getr hB zd270_64 rfl ?_
              refine zn_ild hB zd270_67 rfl rfl ?_
              refine zn_iald hB zd270_69 rfl rfl (by omega) (by omega) (fun q69 r69 => ?_)
              refine zn_ald hB zd270_70 rfl rfl rfl ?_
              refine zn_getr hB zd270_71 rfl ?_
              refine zn_ild hB zd270_74 rfl rfl ?_
              refine zn_iald hB zd270_75 rfl rfl (by omega) (by omega) (fun q75 r75 => ?_)
              refine zn_cne hB zd270_76 rfl (fun h76 => ?_) (fun h76 => ?_)
              · refine zn_con hB zd270_99 rfl ?_
                refine zn_ist hB zd270_100 rfl rfl rfl ?_
                refine zn_ild hB zd270_102 rfl rfl ?_
                refine zn_zeq hB zd270_104 rfl (fun h104 => ?_) (fun h104 => ?_)
                · refine zn_iinc hB zd270_127 rfl rfl (by omega) (by omega) ?_
                  refine zn_goto hB zd270_130 rfl ?_
                  exact ih.2 _ _ _ (by omega) (by omega) (by omega) c4 c5
                · refine zn_ald hB zd270_107 rfl rfl rfl ?_
                  refine zn_getr hB zd270_108 rfl ?_
                  refine zn_ild hB zd270_111 rfl rfl ?_
                  refine zn_iald hB zd270_112 rfl rfl (by omega) (by omega) (fun q112 r112 => ?_)
                  refine zn_ald hB zd270_113 rfl rfl rfl ?_
                  refine zn_getr hB zd270_114 rfl ?_
                  refine zn_ild hB zd270_117 rfl rfl ?_
                  refine zn_iald hB zd270_118 rfl rfl (by omega) (by omega) (fun q118 r118 => ?_)
                  refine zn_it2 hB zh204w zd270_119 zxt204 rfl rfl (fun r119 F119 G119 hq119 => ?_)
                  obtain ⟨rfl, rfl, hx119⟩ := hq119
                  rcases hx119 with rfl | rfl
                  · refine zn_zne hB zd270_122 rfl (fun h122 => ?_) (fun h122 => ?_)
                    · exfalso; omega
                    · refine zn_con hB zd270_125 rfl ?_
                      refine hret _ _ _ _ _ zd270_126 (by constructor <;> decide) ⟨rfl, rfl, ?_⟩
                      first | exact Or.inl rfl | exact Or.inr rfl
                  · refine zn_zne hB zd270_122 rfl (fun h122 => ?_) (fun h122 => ?_)
                    · refine zn_iinc hB zd270_127 rfl rfl (by omega) (by omega) ?_
                      refine zn_goto hB zd270_130 rfl ?_
                      exact ih.2 _ _ _ (by omega) (by omega) (by omega) c4 c5
                    · exfalso; omega
              · refine zn_ald hB zd270_79 rfl rfl rfl ?_
                refine zn_getr hB zd270_80 rfl ?_
                refine zn_ild hB zd270_83 rfl rfl ?_
                refine zn_iald hB zd270_85 rfl rfl (by omega) (by omega) (fun q85 r85 => ?_)
                refine zn_ald hB zd270_86 rfl rfl rfl ?_
                refine zn_getr hB zd270_87 rfl ?_
                refine zn_ild hB zd270_90 rfl rfl ?_
                refine zn_iald hB zd270_91 rfl rfl (by omega) (by omega) (fun q91 r91 => ?_)
                refine zn_cne hB zd270_92 rfl (fun h92 => ?_) (fun h92 => ?_)
                · refine zn_con hB zd270_99 rfl ?_
                  refine zn_ist hB zd270_100 rfl rfl rfl ?_
                  refine zn_ild hB zd270_102 rfl rfl ?_
                  refine zn_zeq hB zd270_104 rfl (fun h104 => ?_) (fun h104 => ?_)
                  · refine zn_iinc hB zd270_127 rfl rfl (by omega) (by omega) ?_
                    refine zn_goto hB zd270_130 rfl ?_
                    exact ih.2 _ _ _ (by omega) (by omega) (by omega) c4 c5
                  · refine zn_ald hB zd270_107 rfl rfl rfl ?_
                    refine zn_getr hB zd270_108 rfl ?_
                    refine zn_ild hB zd270_111 rfl rfl ?_
                    refine zn_iald hB zd270_112 rfl rfl (by omega) (by omega) (fun q112 r112 => ?_)
                    refine zn_ald hB zd270_113 rfl rfl rfl ?_
                    refine zn_getr hB zd270_114 rfl ?_
                    refine zn_ild hB zd270_117 rfl rfl ?_
                    refine zn_iald hB zd270_118 rfl rfl (by omega) (by omega) (fun q118 r118 => ?_)
                    refine zn_it2 hB zh204w zd270_119 zxt204 rfl rfl (fun r119 F119 G119 hq119 => ?_)
                    obtain ⟨rfl, rfl, hx119⟩ := hq119
                    rcases hx119 with rfl | rfl
                    · refine zn_zne hB zd270_122 rfl (fun h122 => ?_) (fun h122 => ?_)
                      · exfalso; omega
                      · refine zn_con hB zd270_125 rfl ?_
                        refine hret _ _ _ _ _ zd270_126 (by constructor <;> decide) ⟨rfl, rfl, ?_⟩
                        first | exact Or.inl rfl | exact Or.inr rfl
                    · refine zn_zne hB zd270_122 rfl (fun h122 => ?_) (fun h122 => ?_)
                      · refine zn_iinc hB zd270_127 rfl rfl (by omega) (by omega) ?_
                        refine zn_goto hB zd270_130 rfl ?_
                        exact ih.2 _ _ _ (by omega) (by omega) (by omega) c4 c5
                      · exfalso; omega
                · refine zn_con hB zd270_95 rfl ?_
                  refine zn_goto hB zd270_96 rfl ?_
                  refine zn_ist hB zd270_100 rfl rfl rfl ?_
                  refine zn_ild hB zd270_102 rfl rfl ?_
                  refine zn_zeq hB zd270_104 rfl (fun h104 => ?_) (fun h104 => ?_)
                  · refine zn_iinc hB zd270_127 rfl rfl (by omega) (by omega) ?_
                    refine zn_goto hB zd270_130 rfl ?_
                    exact ih.2 _ _ _ (by omega) (by omega) (by omega) c4 c5
                  · refine zn_ald hB zd270_107 rfl rfl rfl ?_
                    refine zn_getr hB zd270_108 rfl ?_
                    refine zn_ild hB zd270_111 rfl rfl ?_
                    refine zn_iald hB zd270_112 rfl rfl (by omega) (by omega) (fun q112 r112 => ?_)
                    refine zn_ald hB zd270_113 rfl rfl rfl ?_
                    refine zn_getr hB zd270_114 rfl ?_
                    refine zn_ild hB zd270_117 rfl rfl ?_
                    refine zn_iald hB zd270_118 rfl rfl (by omega) (by omega) (fun q118 r118 => ?_)
                    refine zn_it2 hB zh204w zd270_119 zxt204 rfl rfl (fun r119 F119 G119 hq119 => ?_)
                    obtain ⟨rfl, rfl, hx119⟩ := hq119
                    rcases hx119 with rfl | rfl
                    · refine zn_zne hB zd270_122 rfl (fun h122 => ?_) (fun h122 => ?_)
                      · exfalso; omega
                      · refine zn_con hB zd270_125 rfl ?_
                        refine hret _ _ _ _ _ zd270_126 (by constructor <;> decide) ⟨rfl, rfl, ?_⟩
                        first | exact Or.inl rfl | exact Or.inr rfl
                    · refine zn_zne hB zd270_122 rfl (fun h122 => ?_) (fun h122 => ?_)
                      · refine zn_iinc hB zd270_127 rfl rfl (by omega) (by omega) ?_
                        refine zn_goto hB zd270_130 rfl ?_
                        exact ih.2 _ _ _ (by omega) (by omega) (by omega) c4 c5
                      · exfalso; omega
  refine zn_con hB zd270_0 rfl ?_
  refine zn_ist hB zd270_1 rfl rfl rfl ?_
  exact (key (20 * q).toNat.succ).1 _ _ _ (by omega) (by omega)
theorem zd268_0 : decode zxm268.2.1 0 = .ok (.aload_n 0, 1) := by decide +kernel
theorem zd268_1 : decode zxm268.2.1 1 = .ok (.invokevirtual 360, 3) := by decide +kernel
theorem zd268_4 : decode zxm268.2.1 4 = .ok (.iconst 0, 1) := by decide +kernel
theorem zd268_5 : decode zxm268.2.1 5 = .ok (.istore_n 2, 1) := by decide +kernel
theorem zd268_6 : decode zxm268.2.1 6 = .ok (.iconst 0, 1) := by decide +kernel
theorem zd268_7 : decode zxm268.2.1 7 = .ok (.istore_n 3, 1) := by decide +kernel
theorem zd268_8 : decode zxm268.2.1 8 = .ok (.aload_n 0, 1) := by decide +kernel
theorem zd268_9 : decode zxm268.2.1 9 = .ok (.getfield 80, 3) := by decide +kernel
theorem zd268_12 : decode zxm268.2.1 12 = .ok (.iconst 0, 1) := by decide +kernel
theorem zd268_13 : decode zxm268.2.1 13 = .ok (.iconst (-1), 1) := by decide +kernel
theorem zd268_14 : decode zxm268.2.1 14 = .ok (.iastore, 1) := by decide +kernel
theorem zd268_15 : decode zxm268.2.1 15 = .ok (.iload_n 3, 1) := by decide +kernel
theorem zd268_16 : decode zxm268.2.1 16 = .ok (.ifCond .lt 150, 3) := by decide +kernel
theorem zd268_19 : decode zxm268.2.1 19 = .ok (.iload_n 2, 1) := by decide +kernel
theorem zd268_20 : decode zxm268.2.1 20 = .ok (.iload_n 1, 1) := by decide +kernel
theorem zd268_21 : decode zxm268.2.1 21 = .ok (.if_icmp .ge 145, 3) := by decide +kernel
theorem zd268_24 : decode zxm268.2.1 24 = .ok (.aload_n 0, 1) := by decide +kernel
theorem zd268_25 : decode zxm268.2.1 25 = .ok (.getfield 80, 3) := by decide +kernel
theorem zd268_28 : decode zxm268.2.1 28 = .ok (.iload_n 3, 1) := by decide +kernel
theorem zd268_29 : decode zxm268.2.1 29 = .ok (.iaload, 1) := by decide +kernel
theorem zd268_30 : decode zxm268.2.1 30 = .ok (.iconst 1, 1) := by decide +kernel
theorem zd268_31 : decode zxm268.2.1 31 = .ok (.iadd, 1) := by decide +kernel
theorem zd268_32 : decode zxm268.2.1 32 = .ok (.istore 4, 2) := by decide +kernel
theorem zd268_34 : decode zxm268.2.1 34 = .ok (.iload 4, 2) := by decide +kernel
theorem zd268_36 : decode zxm268.2.1 36 = .ok (.bipush 24, 2) := by decide +kernel
theorem zd268_38 : decode zxm268.2.1 38 = .ok (.if_icmp .ge 34, 3) := by decide +kernel
theorem zd268_41 : decode zxm268.2.1 41 = .ok (.aload_n 0, 1) := by decide +kernel
theorem zd268_42 : decode zxm268.2.1 42 = .ok (.getfield 303, 3) := by decide +kernel
theorem zd268_45 : decode zxm268.2.1 45 = .ok (.iload 4, 2) := by decide +kernel
theorem zd268_47 : decode zxm268.2.1 47 = .ok (.invokestatic 138, 3) := by decide +kernel
theorem zd268_50 : decode zxm268.2.1 50 = .ok (.ifCond .eq 13, 3) := by decide +kernel
theorem zd268_53 : decode zxm268.2.1 53 = .ok (.aload_n 0, 1) := by decide +kernel
theorem zd268_54 : decode zxm268.2.1 54 = .ok (.iload_n 3, 1) := by decide +kernel
theorem zd268_55 : decode zxm268.2.1 55 = .ok (.iload 4, 2) := by decide +kernel
theorem zd268_57 : decode zxm268.2.1 57 = .ok (.invokevirtual 363, 3) := by decide +kernel
theorem zd268_60 : decode zxm268.2.1 60 = .ok (.ifCond .ne 12, 3) := by decide +kernel
theorem zd268_63 : decode zxm268.2.1 63 = .ok (.iload 4, 2) := by decide +kernel
theorem zd268_65 : decode zxm268.2.1 65 = .ok (.iconst 1, 1) := by decide +kernel
theorem zd268_66 : decode zxm268.2.1 66 = .ok (.iadd, 1) := by decide +kernel
theorem zd268_67 : decode zxm268.2.1 67 = .ok (.istore 4, 2) := by decide +kernel
theorem zd268_69 : decode zxm268.2.1 69 = .ok (.goto (-35), 3) := by decide +kernel
theorem zd268_72 : decode zxm268.2.1 72 = .ok (.iload 4, 2) := by decide +kernel
theorem zd268_74 : decode zxm268.2.1 74 = .ok (.bipush 24, 2) := by decide +kernel
theorem zd268_76 : decode zxm268.2.1 76 = .ok (.if_icmp .ne 10, 3) := by decide +kernel
theorem zd268_79 : decode zxm268.2.1 79 = .ok (.iload_n 3, 1) := by decide +kernel
theorem zd268_80 : decode zxm268.2.1 80 = .ok (.iconst 1, 1) := by decide +kernel
theorem zd268_81 : decode zxm268.2.1 81 = .ok (.isub, 1) := by decide +kernel
theorem zd268_82 : decode zxm268.2.1 82 = .ok (.istore_n 3, 1) := by decide +kernel
theorem zd268_83 : decode zxm268.2.1 83 = .ok (.goto (-68), 3) := by decide +kernel
theorem zd268_86 : decode zxm268.2.1 86 = .ok (.aload_n 0, 1) := by decide +kernel
theorem zd268_87 : decode zxm268.2.1 87 = .ok (.getfield 80, 3) := by decide +kernel
theorem zd268_90 : decode zxm268.2.1 90 = .ok (.iload_n 3, 1) := by decide +kernel
theorem zd268_91 : decode zxm268.2.1 91 = .ok (.iload 4, 2) := by decide +kernel
theorem zd268_93 : decode zxm268.2.1 93 = .ok (.iastore, 1) := by decide +kernel
theorem zd268_94 : decode zxm268.2.1 94 = .ok (.iload_n 3, 1) := by decide +kernel
theorem zd268_95 : decode zxm268.2.1 95 = .ok (.iconst 1, 1) := by decide +kernel
theorem zd268_96 : decode zxm268.2.1 96 = .ok (.iadd, 1) := by decide +kernel
theorem zd268_97 : decode zxm268.2.1 97 = .ok (.aload_n 0, 1) := by decide +kernel
theorem zd268_98 : decode zxm268.2.1 98 = .ok (.getfield 357, 3) := by decide +kernel
theorem zd268_101 : decode zxm268.2.1 101 = .ok (.if_icmp .ge 17, 3) := by decide +kernel
theorem zd268_104 : decode zxm268.2.1 104 = .ok (.iload_n 3, 1) := by decide +kernel
theorem zd268_105 : decode zxm268.2.1 105 = .ok (.iconst 1, 1) := by decide +kernel
theorem zd268_106 : decode zxm268.2.1 106 = .ok (.iadd, 1) := by decide +kernel
theorem zd268_107 : decode zxm268.2.1 107 = .ok (.istore_n 3, 1) := by decide +kernel
theorem zd268_108 : decode zxm268.2.1 108 = .ok (.aload_n 0, 1) := by decide +kernel
theorem zd268_109 : decode zxm268.2.1 109 = .ok (.getfield 80, 3) := by decide +kernel
theorem zd268_112 : decode zxm268.2.1 112 = .ok (.iload_n 3, 1) := by decide +kernel
theorem zd268_113 : decode zxm268.2.1 113 = .ok (.iconst (-1), 1) := by decide +kernel
theorem zd268_114 : decode zxm268.2.1 114 = .ok (.iastore, 1) := by decide +kernel
theorem zd268_115 : decode zxm268.2.1 115 = .ok (.goto (-100), 3) := by decide +kernel
theorem zd268_118 : decode zxm268.2.1 118 = .ok (.iload_n 2, 1) := by decide +kernel
theorem zd268_119 : decode zxm268.2.1 119 = .ok (.ifCond .ne 40, 3) := by decide +kernel
theorem zd268_122 : decode zxm268.2.1 122 = .ok (.iconst 0, 1) := by decide +kernel
theorem zd268_123 : decode zxm268.2.1 123 = .ok (.istore 5, 2) := by decide +kernel
theorem zd268_125 : decode zxm268.2.1 125 = .ok (.iload 5, 2) := by decide +kernel
theorem zd268_127 : decode zxm268.2.1 127 = .ok (.aload_n 0, 1) := by decide +kernel
theorem zd268_128 : decode zxm268.2.1 128 = .ok (.getfield 357, 3) := by decide +kernel
theorem zd268_131 : decode zxm268.2.1 131 = .ok (.if_icmp .ge 28, 3) := by decide +kernel
theorem zd268_134 : decode zxm268.2.1 134 = .ok (.aload_n 0, 1) := by decide +kernel
theorem zd268_135 : decode zxm268.2.1 135 = .ok (.getfield 83, 3) := by decide +kernel
theorem zd268_138 : decode zxm268.2.1 138 = .ok (.aload_n 0, 1) := by decide +kernel
theorem zd268_139 : decode zxm268.2.1 139 = .ok (.getfield 77, 3) := by decide +kernel
theorem zd268_142 : decode zxm268.2.1 142 = .ok (.iload 5, 2) := by decide +kernel
theorem zd268_144 : decode zxm268.2.1 144 = .ok (.iaload, 1) := by decide +kernel
theorem zd268_145 : decode zxm268.2.1 145 = .ok (.aload_n 0, 1) := by decide +kernel
theorem zd268_146 : decode zxm268.2.1 146 = .ok (.getfield 80, 3) := by decide +kernel
theorem zd268_149 : decode zxm268.2.1 149 = .ok (.iload 5, 2) := by decide +kernel
theorem zd268_151 : decode zxm268.2.1 151 = .ok (.iaload, 1) := by decide +kernel
theorem zd268_152 : decode zxm268.2.1 152 = .ok (.iastore, 1) := by decide +kernel
theorem zd268_153 : decode zxm268.2.1 153 = .ok (.iinc 5 1, 3) := by decide +kernel
theorem zd268_156 : decode zxm268.2.1 156 = .ok (.goto (-31), 3) := by decide +kernel
theorem zd268_159 : decode zxm268.2.1 159 = .ok (.iload_n 2, 1) := by decide +kernel
theorem zd268_160 : decode zxm268.2.1 160 = .ok (.iconst 1, 1) := by decide +kernel
theorem zd268_161 : decode zxm268.2.1 161 = .ok (.iadd, 1) := by decide +kernel
theorem zd268_162 : decode zxm268.2.1 162 = .ok (.istore_n 2, 1) := by decide +kernel
theorem zd268_163 : decode zxm268.2.1 163 = .ok (.goto (-148), 3) := by decide +kernel
theorem zd268_166 : decode zxm268.2.1 166 = .ok (.iload_n 2, 1) := by decide +kernel
theorem zd268_167 : decode zxm268.2.1 167 = .ok (.ireturn, 1) := by decide +kernel
theorem zh268  : zn_OK z_TB z_cl z_KX zyWa zxm268 (2, 120) (fun va F G => va = [.inr 0, .inl most] ∧ F = s0 :: tl :: ni :: nm :: Fr ∧ G = fn :: tn :: na :: sf :: ff :: lo :: Gr ∧ most ≤ 1000000 ∧ 0 ≤ tl ∧ tl ≤ 12 ∧ ∀ j, 0 ≤ j → j < 8 → 0 ≤ na j ∧ na j ≤ 7) (fun va F G r F' G' => ∃ v nm' na' sf' ff', r = some v ∧ F' = s0 :: tl :: ni :: nm' :: Fr ∧ G' = fn :: tn :: na' :: sf' :: ff' :: lo :: Gr ∧ 0 ≤ nm' ∧ nm' ≤ 8 ∧ ∀ j, 0 ≤ j → j < 8 → 0 ≤ na' j ∧ na' j ≤ 7) := zn_meth (K := zkM) (FT := z_FT) (MT := z_MT) (n := 2) zxp268 (z_ks13 _ (fun _ h => List.mem_cons_of_mem _ h) _ _ _ _ (fun j r h _ => by cases h)) (fun _ _ => zs_KX_p) (by decide +kernel) (fun va F G h => by obtain ⟨rfl, _⟩ := h; rfl) rfl fun good va F G hB hret hvret hP => by
  obtain ⟨rfl, rfl, rfl, hm, ht1, ht2, hn⟩ := hP
  have key : ∀ (m : Nat) (q : Nat) (n nm : Int) (x4 x5 : zNV) (na sf ff : Int → Int), 0 ≤ nm → nm ≤ 8 → (∀ j, 0 ≤ j → j < 8 → 0 ≤ na j ∧ na j ≤ 7) → q ≤ 7 → (1 ≤ q → (q : Int) < nm) → (∀ j : Int, 0 ≤ j → j ≤ q → -1 ≤ sf j ∧ sf j ≤ 23) → 0 ≤ n → n ≤ 2000000000 → zw_r sf q < m → good 15 [.inr 0, .inl most, .inl n, .inl (q : Int), x4, x5] [] (s0 :: tl :: ni :: nm :: Fr) (fn :: tn :: na :: sf :: ff :: lo :: Gr) := by
    intro m
    induction m with
    | zero =>
      intro q n nm x4 x5 na sf ff h1 h2 h3 hq hq2 hs c1 c2 c3
      have := zw_r_nn (sf := sf) (q := q) (fun j j1 j2 => by have := hs j j1 j2; omega)
      exfalso; omega
    | succ m ih =>
      intro q n nm x4 x5 na sf ff h1 h2 h3 hq hq2 hs c1 c2 c3
      have hsq := hs q (by omega) (Int.le_refl _)
      have go : ∀ (star : Int) (x5 : zNV), sf q + 1 ≤ star → star ≤ 24 → n < most → good 72 [.inr 0, .inl most, .inl n, .inl (q : Int), .inl star, x5] [] (s0 :: tl :: ni :: nm :: Fr) (fn :: tn :: na :: sf :: ff :: lo :: Gr) := by
        intro star x5 s1 s2 hnm
        have done : ∀ (x4 x5 : zNV) (n : Int), good 15 [.inr 0, .inl most, .inl n, .inl (((0 : Nat) : Int) - 1), x4, x5] [] (s0 :: tl :: ni :: nm :: Fr) (fn :: tn :: na :: sf :: ff :: lo :: Gr) := by
          intro x4 x5 n
          refine zn_ild hB zd268_15 rfl rfl ?_
          refine zn_zlt hB zd268_16 rfl (fun h16 => ?_) (fun h16 => ?_)
          · refine zn_ild hB zd268_166 rfl rfl ?_
            exact hret _ _ _ _ _ zd268_167 trivial ⟨_, _, _, _, _, rfl, rfl, rfl, h1, h2, h3⟩
          · exfalso; omega
        have note : ∀ (mm : Nat) (k : Int) (ff : Int → Int), nm - k < mm → 0 ≤ k → star < 24 → good 125 [.inr 0, .inl most, .inl n, .inl (q : Int), .inl star, .inl k] [] (s0 :: tl :: ni :: nm :: Fr) (fn :: tn :: na :: zn_up sf (q : Int) star :: ff :: lo :: Gr) := by
          intro mm
          induction mm with
          | zero =>
            intro k ff d1 d2 d3
            refine zn_ild hB zd268_125 rfl rfl ?_
            refine zn_ald hB zd268_127 rfl rfl rfl ?_
            refine zn_getf hB zd268_128 rfl rfl (fun q128 r128 => ?_)
            refine zn_cge hB zd268_131 rfl (fun h131 => ?_) (fun h131 => ?_)
            · refine zn_ild hB zd268_159 rfl rfl ?_
              refine zn_con hB zd268_160 rfl ?_
              refine zn_iadd hB zd268_161 (by omega) (by omega) ?_
              refine zn_ist hB zd268_162 rfl rfl rfl ?_
              refine zn_goto hB zd268_163 rfl ?_
              have hu := zw_r_up (sf := sf) (v := star) (q := q) s1
              have hw1 := zw_w1 (j := 8 - q)
              refine ih q _ _ _ _ _ _ _ h1 h2 h3 hq hq2 (fun j j1 j2 => ?_) (by omega) (by omega) (by omega)
              by_cases e2 : j = q
              · rw [e2, zn_up_s]; omega
              · rw [zn_up_n e2]; exact hs j j1 j2
            · exfalso; omega
          | succ mm ih2 =>
            intro k ff d1 d2 d3
            refine zn_ild hB zd268_125 rfl rfl ?_
            refine zn_ald hB zd268_127 rfl rfl rfl ?_
            refine zn_getf hB zd268_128 rfl rfl (fun q128 r128 => ?_)
            refine zn_cge hB zd268_131 rfl (fun h131 => ?_) (fun h131 => ?_)
            · refine zn_ild hB zd268_159 rfl rfl ?_
              refine zn_con hB zd268_160 rfl ?_
              refine zn_iadd hB zd268_161 (by omega) (by omega) ?_
              refine zn_ist hB zd268_162 rfl rfl rfl ?_
              refine zn_goto hB zd268_163 rfl ?_
              have hu := zw_r_up (sf := sf) (v := star) (q := q) s1
              have hw1 := zw_w1 (j := 8 - q)
              refine ih q _ _ _ _ _ _ _ h1 h2 h3 hq hq2 (fun j j1 j2 => ?_) (by omega) (by omega) (by omega)
              by_cases e2 : j = q
              · rw [e2, zn_up_s]; omega
              · rw [zn_up_n e2]; exact hs j j1 j2
            · have d4 := h3 k d2 (by omega)
              refine zn_ald hB zd268_134 rfl rfl rfl ?_
              refine zn_getr hB zd268_135 rfl ?_
              refine zn_ald hB zd268_138 rfl rfl rfl ?_
              refine zn_getr hB zd268_139 rfl ?_
              refine zn_ild hB zd268_142 rfl rfl ?_
              refine zn_iald hB zd268_144 rfl rfl (by omega) (by omega) (fun q144 r144 => ?_)
              refine zn_ald hB zd268_145 rfl rfl rfl ?_
              refine zn_getr hB zd268_146 rfl ?_
              refine zn_ild hB zd268_149 rfl rfl ?_
              refine zn_iald hB zd268_151 rfl rfl (by omega) (by omega) (fun q151 r151 => ?_)
              refine zn_iast hB zd268_152 rfl rfl (by omega) (by omega) ?_
              refine zn_iinc hB zd268_153 rfl rfl (by omega) (by omega) ?_
              refine zn_goto hB zd268_156 rfl ?_
              exact ih2 _ _ (by omega) (by omega) d3
        refine zn_ild hB zd268_72 rfl rfl ?_
        refine zn_con hB zd268_74 rfl ?_
        refine zn_cne hB zd268_76 rfl (fun h76 => ?_) (fun h76 => ?_)
        · refine zn_ald hB zd268_86 rfl rfl rfl ?_
          refine zn_getr hB zd268_87 rfl ?_
          refine zn_ild hB zd268_90 rfl rfl ?_
          refine zn_ild hB zd268_91 rfl rfl ?_
          refine zn_iast hB zd268_93 rfl rfl (by omega) (by omega) ?_
          refine zn_ild hB zd268_94 rfl rfl ?_
          refine zn_con hB zd268_95 rfl ?_
          refine zn_iadd hB zd268_96 (by omega) (by omega) ?_
          refine zn_ald hB zd268_97 rfl rfl rfl ?_
          refine zn_getf hB zd268_98 rfl rfl (fun q98 r98 => ?_)
          refine zn_cge hB zd268_101 rfl (fun h101 => ?_) (fun h101 => ?_)
          · refine zn_ild hB zd268_118 rfl rfl ?_
            refine zn_zne hB zd268_119 rfl (fun h119 => ?_) (fun h119 => ?_)
            · refine zn_ild hB zd268_159 rfl rfl ?_
              refine zn_con hB zd268_160 rfl ?_
              refine zn_iadd hB zd268_161 (by omega) (by omega) ?_
              refine zn_ist hB zd268_162 rfl rfl rfl ?_
              refine zn_goto hB zd268_163 rfl ?_
              have hu := zw_r_up (sf := sf) (v := star) (q := q) s1
              have hw1 := zw_w1 (j := 8 - q)
              refine ih q _ _ _ _ _ _ _ h1 h2 h3 hq hq2 (fun j j1 j2 => ?_) (by omega) (by omega) (by omega)
              by_cases e2 : j = q
              · rw [e2, zn_up_s]; omega
              · rw [zn_up_n e2]; exact hs j j1 j2
            · refine zn_con hB zd268_122 rfl ?_
              refine zn_ist hB zd268_123 rfl rfl rfl ?_
              exact note (nm.toNat + 1) 0 ff (by omega) (by omega) (by omega)
          · refine zn_ild hB zd268_104 rfl rfl ?_
            refine zn_con hB zd268_105 rfl ?_
            refine zn_iadd hB zd268_106 (by omega) (by omega) ?_
            refine zn_ist hB zd268_107 rfl rfl rfl ?_
            refine zn_ald hB zd268_108 rfl rfl rfl ?_
            refine zn_getr hB zd268_109 rfl ?_
            refine zn_ild hB zd268_112 rfl rfl ?_
            refine zn_con hB zd268_113 rfl ?_
            refine zn_iast hB zd268_114 rfl rfl (by omega) (by omega) ?_
            refine zn_goto hB zd268_115 rfl ?_
            have hu := zw_r_up (sf := sf) (v := star) (q := q) s1
            have hx := zw_r_next (sf := zn_up sf (q : Int) star) (q := q) (by omega)
            refine ih (q + 1) _ _ _ _ _ _ _ h1 h2 h3 (by omega) (fun _ => by omega) (fun j j1 j2 => ?_) c1 c2 (by push_cast at hx ⊢; omega)
            by_cases e : j = ((q + 1 : Nat) : Int)
            · push_cast at e
              rw [e, zn_up_s]; omega
            · push_cast at e
              rw [zn_up_n e]
              by_cases e2 : j = q
              · rw [e2, zn_up_s]; omega
              · rw [zn_up_n e2]; exact hs j j1 (by omega)
        · refine zn_ild hB zd268_79 rfl rfl ?_
          refine zn_con hB zd268_80 rfl ?_
          refine zn_isub hB zd268_81 (by omega) (by omega) ?_
          refine zn_ist hB zd268_82 rfl rfl rfl ?_
          refine zn_goto hB zd268_83 rfl ?_
          rcases Nat.eq_zero_or_pos q with e | e
          · subst e
            exact done _ _ _
          · obtain ⟨p, rfl⟩ : ∃ p, q = p + 1 := ⟨q - 1, by omega⟩
            have hb := zw_r_back (sf := sf) (q := p) (by omega)
            have e1 : ((p + 1 : Nat) : Int) - 1 = (p : Int) := by omega
            rw [e1]
            exact ih p _ _ _ _ _ _ _ h1 h2 h3 (by omega) (fun _ => by have := hq2 (by omega); omega) (fun j j1 j2 => hs j j1 (by omega)) c1 c2 (by omega)
      have find : ∀ (mm : Nat) (star : Int) (x5 : zNV), 24 - star < mm → sf q + 1 ≤ star → star ≤ 24 → n < most → good 34 [.inr 0, .inl most, .inl n, .inl (q : Int), .inl star, x5] [] (s0 :: tl :: ni :: nm :: Fr) (fn :: tn :: na :: sf :: ff :: lo :: Gr) := by
        intro mm
        induction mm with
        | zero =>
          intro star x5 d1 d2 d3 d4
          exfalso; omega
        | succ mm ih2 =>
          intro star x5 d1 d2 d3 d4
          refine zn_ild hB zd268_34 rfl rfl ?_
          refine zn_con hB zd268_36 rfl ?_
          refine zn_cge hB zd268_38 rfl (fun h38 => ?_) (fun h38 => ?_)
          · exact go _ _ (by omega) (by omega) d4
          · refine zn_ald hB zd268_41 rfl rfl rfl ?_
            refine zn_getf hB zd268_42 rfl rfl (fun q42 r42 => ?_)
            refine zn_ild hB zd268_45 rfl rfl ?_
            refine zn_it2 hB zh204w zd268_47 zxt204 rfl rfl (fun r47 F47 G47 hq47 => ?_)
            obtain ⟨rfl, rfl, hx47⟩ := hq47
            rcases hx47 with rfl | rfl
            · refine zn_zeq hB zd268_50 rfl (fun h50 => ?_) (fun h50 => ?_)
              · refine zn_ild hB zd268_63 rfl rfl ?_
                refine zn_con hB zd268_65 rfl ?_
                refine zn_iadd hB zd268_66 (by omega) (by omega) ?_
                refine zn_ist hB zd268_67 rfl rfl rfl ?_
                refine zn_goto hB zd268_69 rfl ?_
                exact ih2 _ _ (by omega) (by omega) (by omega) d4
              · exfalso; omega
            · refine zn_zeq hB zd268_50 rfl (fun h50 => ?_) (fun h50 => ?_)
              · exfalso; omega
              · refine zn_ald hB zd268_53 rfl rfl rfl ?_
                refine zn_ild hB zd268_54 rfl rfl ?_
                refine zn_ild hB zd268_55 rfl rfl ?_
                refine zn_iv2 hB (zh270 (nm := nm) (sf := sf)) zd268_57 zxt270 rfl ⟨rfl, rfl, rfl, by omega, by omega, by omega, by omega, ht1, ht2⟩ (fun r57 F57 G57 hq57 => ?_)
                obtain ⟨rfl, rfl, hx57⟩ := hq57
                rcases hx57 with rfl | rfl
                · refine zn_zne hB zd268_60 rfl (fun h60 => ?_) (fun h60 => ?_)
                  · exfalso; omega
                  · refine zn_ild hB zd268_63 rfl rfl ?_
                    refine zn_con hB zd268_65 rfl ?_
                    refine zn_iadd hB zd268_66 (by omega) (by omega) ?_
                    refine zn_ist hB zd268_67 rfl rfl rfl ?_
                    refine zn_goto hB zd268_69 rfl ?_
                    exact ih2 _ _ (by omega) (by omega) (by omega) d4
                · refine zn_zne hB zd268_60 rfl (fun h60 => ?_) (fun h60 => ?_)
                  · exact go _ _ (by omega) (by omega) d4
                  · exfalso; omega
      refine zn_ild hB zd268_15 rfl rfl ?_
      refine zn_zlt hB zd268_16 rfl (fun h16 => ?_) (fun h16 => ?_)
      · refine zn_ild hB zd268_166 rfl rfl ?_
        exact hret _ _ _ _ _ zd268_167 trivial ⟨_, _, _, _, _, rfl, rfl, rfl, h1, h2, h3⟩
      · refine zn_ild hB zd268_19 rfl rfl ?_
        refine zn_ild hB zd268_20 rfl rfl ?_
        refine zn_cge hB zd268_21 rfl (fun h21 => ?_) (fun h21 => ?_)
        · refine zn_ild hB zd268_166 rfl rfl ?_
          exact hret _ _ _ _ _ zd268_167 trivial ⟨_, _, _, _, _, rfl, rfl, rfl, h1, h2, h3⟩
        · refine zn_ald hB zd268_24 rfl rfl rfl ?_
          refine zn_getr hB zd268_25 rfl ?_
          refine zn_ild hB zd268_28 rfl rfl ?_
          refine zn_iald hB zd268_29 rfl rfl (by omega) (by omega) (fun q29 r29 => ?_)
          refine zn_con hB zd268_30 rfl ?_
          refine zn_iadd hB zd268_31 (by omega) (by omega) ?_
          refine zn_ist hB zd268_32 rfl rfl rfl ?_
          exact find 26 _ _ (by omega) (Int.le_refl _) (by omega) (by omega)
  refine zn_ald hB zd268_0 rfl rfl rfl ?_
  refine zn_iv0 hB (zh269 (na := na)) zd268_1 zxt269 rfl ⟨rfl, rfl, rfl, hn⟩ (fun r1 F1 G1 hq1 => ?_)
  obtain ⟨rfl, nm', na', rfl, rfl, k1, k2, k3⟩ := hq1
  refine zn_con hB zd268_4 rfl ?_
  refine zn_ist hB zd268_5 rfl rfl rfl ?_
  refine zn_con hB zd268_6 rfl ?_
  refine zn_ist hB zd268_7 rfl rfl rfl ?_
  refine zn_ald hB zd268_8 rfl rfl rfl ?_
  refine zn_getr hB zd268_9 rfl ?_
  refine zn_con hB zd268_12 rfl ?_
  refine zn_con hB zd268_13 rfl ?_
  refine zn_iast hB zd268_14 rfl rfl (by omega) (by omega) ?_
  refine key (zw_r (zn_up sf 0 (-1)) 0).toNat.succ 0 _ _ _ _ _ _ _ k1 k2 k3 (by omega) (fun h => absurd h (by omega)) (fun j j1 j2 => ?_) (Int.le_refl _) (by omega) ?_
  · have e : j = 0 := by omega
    rw [e, zn_up_s]; omega
  · have hz : ∀ j : Int, 0 ≤ j → j ≤ ((0 : Nat) : Int) → zn_up sf 0 (-1) j ≤ 24 := by
      intro j j1 j2
      have e : j = 0 := by omega
      rw [e, zn_up_s]; omega
    have := zw_r_nn hz
    omega
end ZWAYS
