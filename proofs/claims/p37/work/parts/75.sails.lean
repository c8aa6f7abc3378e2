/-! Ships: how far all places are. Lines: what hangs together. -/
abbrev zySa : zNL := (4, [(0, 12)], [], [(0, 12, 0, 1), (0, 12, 54, 2)], [(1, 0, 422, 0), (2, 0, 288, 1), (3, 0, 288, 2)])
/-- how many of the first places are reached -/
def zs_cnt (far : Int → Int) : Nat → Int
  | 0 => 0
  | i + 1 => zs_cnt far i + (if far i < 1000000000 then 1 else 0)
theorem zs_cnt_le {far : Int → Int} : ∀ {i : Nat}, 0 ≤ zs_cnt far i ∧ zs_cnt far i ≤ i
  | 0 => ⟨Int.le_refl _, Int.le_refl _⟩
  | i + 1 => by
    have := zs_cnt_le (far := far) (i := i)
    have e : zs_cnt far (i + 1) = zs_cnt far i + (if far i < 1000000000 then 1 else 0) := rfl
    rw [e]
    split <;> omega
theorem zs_cnt_up {far : Int → Int} {p v : Int} (hp : 0 ≤ p) (h : 1000000000 ≤ far p) (hv : v < 1000000000) : ∀ {i : Nat}, zs_cnt (zn_up far p v) i = zs_cnt far i + (if p < i then 1 else 0)
  | 0 => by
    rw [if_neg (by omega)]; rfl
  | i + 1 => by
    have ih := zs_cnt_up hp h hv (i := i)
    have e : zs_cnt far (i + 1) = zs_cnt far i + (if far i < 1000000000 then 1 else 0) := rfl
    have e2 : zs_cnt (zn_up far p v) (i + 1) = zs_cnt (zn_up far p v) i + (if zn_up far p v i < 1000000000 then 1 else 0) := rfl
    rw [e, e2, ih]
    by_cases q : (i : Int) = p
    · rw [q, zn_up_s, if_pos hv, if_neg (show ¬ p < p by omega), if_neg (show ¬ far p < 1000000000 by omega), if_pos (show p < ((i + 1 : Nat) : Int) by omega)]
    · rw [zn_up_n q]
      by_cases q2 : p < i
      · rw [if_pos q2, if_pos (show p < ((i + 1 : Nat) : Int) by omega)]; omega
      · rw [if_neg q2, if_neg (show ¬ p < ((i + 1 : Nat) : Int) by omega)]; omega
theorem zs_cnt_none {far : Int → Int} : ∀ {i : Nat}, (∀ j : Int, 0 ≤ j → j < i → 1000000000 ≤ far j) → zs_cnt far i = 0
  | 0, _ => rfl
  | i + 1, h => by
    have e : zs_cnt far (i + 1) = zs_cnt far i + (if far i < 1000000000 then 1 else 0) := rfl
    rw [e, zs_cnt_none (i := i) (fun j h1 h2 => h j h1 (by omega)), if_neg (by have := h i (by omega) (by omega); omega)]
    rfl
section ZSAILS
variable {fr : Int} {now queue far : Int → Int} {Gr : List (Int → Int)}
theorem zd304_0 : decode zxm304.2.1 0 = .ok (.iload_n 0, 1) := by decide +kernel
theorem zd304_1 : decode zxm304.2.1 1 = .ok (.bipush 24, 2) := by decide +kernel
theorem zd304_3 : decode zxm304.2.1 3 = .ok (.irem, 1) := by decide +kernel
theorem zd304_4 : decode zxm304.2.1 4 = .ok (.istore_n 2, 1) := by decide +kernel
theorem zd304_5 : decode zxm304.2.1 5 = .ok (.iload_n 0, 1) := by decide +kernel
theorem zd304_6 : decode zxm304.2.1 6 = .ok (.bipush 24, 2) := by decide +kernel
theorem zd304_8 : decode zxm304.2.1 8 = .ok (.idiv, 1) := by decide +kernel
theorem zd304_9 : decode zxm304.2.1 9 = .ok (.istore_n 3, 1) := by decide +kernel
theorem zd304_10 : decode zxm304.2.1 10 = .ok (.iload_n 1, 1) := by decide +kernel
theorem zd304_11 : decode zxm304.2.1 11 = .ok (.iconst 1, 1) := by decide +kernel
theorem zd304_12 : decode zxm304.2.1 12 = .ok (.if_icmp .ne 10, 3) := by decide +kernel
theorem zd304_15 : decode zxm304.2.1 15 = .ok (.iload_n 2, 1) := by decide +kernel
theorem zd304_16 : decode zxm304.2.1 16 = .ok (.iconst 1, 1) := by decide +kernel
theorem zd304_17 : decode zxm304.2.1 17 = .ok (.iadd, 1) := by decide +kernel
theorem zd304_18 : decode zxm304.2.1 18 = .ok (.bipush 24, 2) := by decide +kernel
theorem zd304_20 : decode zxm304.2.1 20 = .ok (.irem, 1) := by decide +kernel
theorem zd304_21 : decode zxm304.2.1 21 = .ok (.istore_n 2, 1) := by decide +kernel
theorem zd304_22 : decode zxm304.2.1 22 = .ok (.iload_n 1, 1) := by decide +kernel
theorem zd304_23 : decode zxm304.2.1 23 = .ok (.iconst 2, 1) := by decide +kernel
theorem zd304_24 : decode zxm304.2.1 24 = .ok (.if_icmp .ne 13, 3) := by decide +kernel
theorem zd304_27 : decode zxm304.2.1 27 = .ok (.iload_n 2, 1) := by decide +kernel
theorem zd304_28 : decode zxm304.2.1 28 = .ok (.bipush 24, 2) := by decide +kernel
theorem zd304_30 : decode zxm304.2.1 30 = .ok (.iadd, 1) := by decide +kernel
theorem zd304_31 : decode zxm304.2.1 31 = .ok (.iconst 1, 1) := by decide +kernel
theorem zd304_32 : decode zxm304.2.1 32 = .ok (.isub, 1) := by decide +kernel
theorem zd304_33 : decode zxm304.2.1 33 = .ok (.bipush 24, 2) := by decide +kernel
theorem zd304_35 : decode zxm304.2.1 35 = .ok (.irem, 1) := by decide +kernel
theorem zd304_36 : decode zxm304.2.1 36 = .ok (.istore_n 2, 1) := by decide +kernel
theorem zd304_37 : decode zxm304.2.1 37 = .ok (.iload_n 1, 1) := by decide +kernel
theorem zd304_38 : decode zxm304.2.1 38 = .ok (.iconst 3, 1) := by decide +kernel
theorem zd304_39 : decode zxm304.2.1 39 = .ok (.if_icmp .ne 7, 3) := by decide +kernel
theorem zd304_42 : decode zxm304.2.1 42 = .ok (.iload_n 3, 1) := by decide +kernel
theorem zd304_43 : decode zxm304.2.1 43 = .ok (.iconst 1, 1) := by decide +kernel
theorem zd304_44 : decode zxm304.2.1 44 = .ok (.iadd, 1) := by decide +kernel
theorem zd304_45 : decode zxm304.2.1 45 = .ok (.istore_n 3, 1) := by decide +kernel
theorem zd304_46 : decode zxm304.2.1 46 = .ok (.iload_n 1, 1) := by decide +kernel
theorem zd304_47 : decode zxm304.2.1 47 = .ok (.iconst 4, 1) := by decide +kernel
theorem zd304_48 : decode zxm304.2.1 48 = .ok (.if_icmp .ne 7, 3) := by decide +kernel
theorem zd304_51 : decode zxm304.2.1 51 = .ok (.iload_n 3, 1) := by decide +kernel
theorem zd304_52 : decode zxm304.2.1 52 = .ok (.iconst 1, 1) := by decide +kernel
theorem zd304_53 : decode zxm304.2.1 53 = .ok (.isub, 1) := by decide +kernel
theorem zd304_54 : decode zxm304.2.1 54 = .ok (.istore_n 3, 1) := by decide +kernel
theorem zd304_55 : decode zxm304.2.1 55 = .ok (.iload_n 3, 1) := by decide +kernel
theorem zd304_56 : decode zxm304.2.1 56 = .ok (.ifCond .lt 9, 3) := by decide +kernel
theorem zd304_59 : decode zxm304.2.1 59 = .ok (.iload_n 3, 1) := by decide +kernel
theorem zd304_60 : decode zxm304.2.1 60 = .ok (.bipush 12, 2) := by decide +kernel
theorem zd304_62 : decode zxm304.2.1 62 = .ok (.if_icmp .lt 7, 3) := by decide +kernel
theorem zd304_65 : decode zxm304.2.1 65 = .ok (.iconst (-1), 1) := by decide +kernel
theorem zd304_66 : decode zxm304.2.1 66 = .ok (.goto 9, 3) := by decide +kernel
theorem zd304_69 : decode zxm304.2.1 69 = .ok (.bipush 24, 2) := by decide +kernel
theorem zd304_71 : decode zxm304.2.1 71 = .ok (.iload_n 3, 1) := by decide +kernel
theorem zd304_72 : decode zxm304.2.1 72 = .ok (.imul, 1) := by decide +kernel
theorem zd304_73 : decode zxm304.2.1 73 = .ok (.iload_n 2, 1) := by decide +kernel
theorem zd304_74 : decode zxm304.2.1 74 = .ok (.iadd, 1) := by decide +kernel
theorem zd304_75 : decode zxm304.2.1 75 = .ok (.ireturn, 1) := by decide +kernel
theorem zh304 {a b : Int} : zn_OK z_TB z_cl z_KX zySa zxm304 (0, 0) (fun va F G => va = [.inl a, .inl b] ∧ 0 ≤ a ∧ a < 288) (fun va F G r F' G' => F' = F ∧ G' = G ∧ ∃ v, r = some v ∧ -1 ≤ v ∧ v < 288) := zn_meth (K := zkM) (FT := z_FT) (MT := z_MT) (n := 2) zxp304 (z_ks13 _ (fun _ h => List.mem_cons_of_mem _ h) _ _ _ _ (fun j r h _ => by cases h)) (fun _ _ => zs_KX_p) (by decide +kernel) (fun va F G h => by obtain ⟨rfl, _⟩ := h; rfl) rfl fun good va F G hB hret hvret hP => by
  obtain ⟨rfl, h0, h1⟩ := hP
  refine zn_ild hB zd304_0 rfl rfl ?_
  refine zn_con hB zd304_1 rfl ?_
  refine zn_irem hB zd304_3 (by omega) (by omega) ?_
  refine zn_ist hB zd304_4 rfl rfl rfl ?_
  refine zn_ild hB zd304_5 rfl rfl ?_
  refine zn_con hB zd304_6 rfl ?_
  refine zn_idiv hB zd304_8 (by omega) (by omega) ?_
  refine zn_ist hB zd304_9 rfl rfl rfl ?_
  refine zn_ild hB zd304_10 rfl rfl ?_
  refine zn_con hB zd304_11 rfl ?_
  refine zn_cne hB zd304_12 rfl (fun h12 => ?_) (fun h12 => ?_)
  · refine zn_ild hB zd304_22 rfl rfl ?_
    refine zn_con hB zd304_23 rfl ?_
    refine zn_cne hB zd304_24 rfl (fun h24 => ?_) (fun h24 => ?_)
    · refine zn_ild hB zd304_37 rfl rfl ?_
      refine zn_con hB zd304_38 rfl ?_
      refine zn_cne hB zd304_39 rfl (fun h39 => ?_) (fun h39 => ?_)
      · refine zn_ild hB zd304_46 rfl rfl ?_
        refine zn_con hB zd304_47 rfl ?_
        refine zn_cne hB zd304_48 rfl (fun h48 => ?_) (fun h48 => ?_)
        · refine zn_ild hB zd304_55 rfl rfl ?_
          refine zn_zlt hB zd304_56 rfl (fun h56 => ?_) (fun h56 => ?_)
          · refine zn_con hB zd304_65 rfl ?_
            refine zn_goto hB zd304_66 rfl ?_
            exact hret _ _ _ _ _ zd304_75 trivial ⟨rfl, rfl, _, rfl, by omega, by omega⟩
          · refine zn_ild hB zd304_59 rfl rfl ?_
            refine zn_con hB zd304_60 rfl ?_
            refine zn_clt hB zd304_62 rfl (fun h62 => ?_) (fun h62 => ?_)
            · refine zn_con hB zd304_69 rfl ?_
              refine zn_ild hB zd304_71 rfl rfl ?_
              refine zn_imul hB zd304_72 (by omega) (by omega) ?_
              refine zn_ild hB zd304_73 rfl rfl ?_
              refine zn_iadd hB zd304_74 (by omega) (by omega) ?_
              exact hret _ _ _ _ _ zd304_75 trivial ⟨rfl, rfl, _, rfl, by omega, by omega⟩
            · refine zn_con hB zd304_65 rfl ?_
              refine zn_goto hB zd304_66 rfl ?_
              exact hret _ _ _ _ _ zd304_75 trivial ⟨rfl, rfl, _, rfl, by omega, by omega⟩
        · refine zn_ild hB zd304_51 rfl rfl ?_
          refine zn_con hB zd304_52 rfl ?_
          refine zn_isub hB zd304_53 (by omega) (by omega) ?_
          refine zn_ist hB zd304_54 rfl rfl rfl ?_
          refine zn_ild hB zd304_55 rfl rfl ?_
          refine zn_zlt hB zd304_56 rfl (fun h56 => ?_) (fun h56 => ?_)
          · refine zn_con hB zd304_65 rfl ?_
            refine zn_goto hB zd304_66 rfl ?_
            exact hret _ _ _ _ _ zd304_75 trivial ⟨rfl, rfl, _, rfl, by omega, by omega⟩
          · refine zn_ild hB zd304_59 rfl rfl ?_
            refine zn_con hB zd304_60 rfl ?_
            refine zn_clt hB zd304_62 rfl (fun h62 => ?_) (fun h62 => ?_)
            · refine zn_con hB zd304_69 rfl ?_
              refine zn_ild hB zd304_71 rfl rfl ?_
              refine zn_imul hB zd304_72 (by omega) (by omega) ?_
              refine zn_ild hB zd304_73 rfl rfl ?_
              refine zn_iadd hB zd304_74 (by omega) (by omega) ?_
              exact hret _ _ _ _ _ zd304_75 trivial ⟨rfl, rfl, _, rfl, by omega, by omega⟩
            · refine zn_con hB zd304_65 rfl ?_
              refine zn_goto hB zd304_66 rfl ?_
              exact hret _ _ _ _ _ zd304_75 trivial ⟨rfl, rfl, _, rfl, by omega, by omega⟩
      · refine zn_ild hB zd304_42 rfl rfl ?_
        refine zn_con hB zd304_43 rfl ?_
        refine zn_iadd hB zd304_44 (by omega) (by omega) ?_
        refine zn_ist hB zd304_45 rfl rfl rfl ?_
        refine zn_ild hB zd304_46 rfl rfl ?_
        refine zn_con hB zd304_47 rfl ?_
        refine zn_cne hB zd304_48 rfl (fun h48 => ?_) (fun h48 => ?_)
        · refine zn_ild hB zd304_55 rfl rfl ?_
          refine zn_zlt hB zd304_56 rfl (fun h56 => ?_) (fun h56 => ?_)
          · refine zn_con hB zd304_65 rfl ?_
            refine zn_goto hB zd304_66 rfl ?_
            exact hret _ _ _ _ _ zd304_75 trivial ⟨rfl, rfl, _, rfl, by omega, by omega⟩
          · refine zn_ild hB zd304_59 rfl rfl ?_
            refine zn_con hB zd304_60 rfl ?_
            refine zn_clt hB zd304_62 rfl (fun h62 => ?_) (fun h62 => ?_)
            · refine zn_con hB zd304_69 rfl ?_
              refine zn_ild hB zd304_71 rfl rfl ?_
              refine zn_imul hB zd304_72 (by omega) (by omega) ?_
              refine zn_ild hB zd304_73 rfl rfl ?_
              refine zn_iadd hB zd304_74 (by omega) (by omega) ?_
              exact hret _ _ _ _ _ zd304_75 trivial ⟨rfl, rfl, _, rfl, by omega, by omega⟩
            · refine zn_con hB zd304_65 rfl ?_
              refine zn_goto hB zd304_66 rfl ?_
              exact hret _ _ _ _ _ zd304_75 trivial ⟨rfl, rfl, _, rfl, by omega, by omega⟩
        · refine zn_ild hB zd304_51 rfl rfl ?_
          refine zn_con hB zd304_52 rfl ?_
          refine zn_isub hB zd304_53 (by omega) (by omega) ?_
          refine zn_ist hB zd304_54 rfl rfl rfl ?_
          refine zn_ild hB zd304_55 rfl rfl ?_
          refine zn_zlt hB zd304_56 rfl (fun h56 => ?_) (fun h56 => ?_)
          · refine zn_con hB zd304_65 rfl ?_
            refine zn_goto hB zd304_66 rfl ?_
            exact hret _ _ _ _ _ zd304_75 trivial ⟨rfl, rfl, _, rfl, by omega, by omega⟩
          · refine zn_ild hB zd304_59 rfl rfl ?_
            refine zn_con hB zd304_60 rfl ?_
            refine zn_clt hB zd304_62 rfl (fun h62 => ?_) (fun h62 => ?_)
            · refine zn_con hB zd304_69 rfl ?_
              refine zn_ild hB zd304_71 rfl rfl ?_
              refine zn_imul hB zd304_72 (by omega) (by omega) ?_
              refine zn_ild hB zd304_73 rfl rfl ?_
              refine zn_iadd hB zd304_74 (by omega) (by omega) ?_
              exact hret _ _ _ _ _ zd304_75 trivial ⟨rfl, rfl, _, rfl, by omega, by omega⟩
            · refine zn_con hB zd304_65 rfl ?_
              refine zn_goto hB zd304_66 rfl ?_
              exact hret _ _ _ _ _ zd304_75 trivial ⟨rfl, rfl, _, rfl, by omega, by omega⟩
    · refine zn_ild hB zd304_27 rfl rfl ?_
      refine zn_con hB zd304_28 rfl ?_
      refine zn_iadd hB zd304_30 (by omega) (by omega) ?_
      refine zn_con hB zd304_31 rfl ?_
      refine zn_isub hB zd304_32 (by omega) (by omega) ?_
      refine zn_con hB zd304_33 rfl ?_
      refine zn_irem hB zd304_35 (by omega) (by omega) ?_
      refine zn_ist hB zd304_36 rfl rfl rfl ?_
      refine zn_ild hB zd304_37 rfl rfl ?_
      refine zn_con hB zd304_38 rfl ?_
      refine zn_cne hB zd304_39 rfl (fun h39 => ?_) (fun h39 => ?_)
      · refine zn_ild hB zd304_46 rfl rfl ?_
        refine zn_con hB zd304_47 rfl ?_
        refine zn_cne hB zd304_48 rfl (fun h48 => ?_) (fun h48 => ?_)
        · refine zn_ild hB zd304_55 rfl rfl ?_
          refine zn_zlt hB zd304_56 rfl (fun h56 => ?_) (fun h56 => ?_)
          · refine zn_con hB zd304_65 rfl ?_
            refine zn_goto hB zd304_66 rfl ?_
            exact hret _ _ _ _ _ zd304_75 trivial ⟨rfl, rfl, _, rfl, by omega, by omega⟩
          · refine zn_ild hB zd304_59 rfl rfl ?_
            refine zn_con hB zd304_60 rfl ?_
            refine zn_clt hB zd304_62 rfl (fun h62 => ?_) (fun h62 => ?_)
            · refine zn_con hB zd304_69 rfl ?_
              refine zn_ild hB zd304_71 rfl rfl ?_
              refine zn_imul hB zd304_72 (by omega) (by omega) ?_
              refine zn_ild hB zd304_73 rfl rfl ?_
              refine zn_iadd hB zd304_74 (by omega) (by omega) ?_
              exact hret _ _ _ _ _ zd304_75 trivial ⟨rfl, rfl, _, rfl, by omega, by omega⟩
            · refine zn_con hB zd304_65 rfl ?_
              refine zn_goto hB zd304_66 rfl ?_
              exact hret _ _ _ _ _ zd304_75 trivial ⟨rfl, rfl, _, rfl, by omega, by omega⟩
        · refine zn_ild hB zd304_51 rfl rfl ?_
          refine zn_con hB zd304_52 rfl ?_
          refine zn_isub hB zd304_53 (by omega) (by omega) ?_
          refine zn_ist hB zd304_54 rfl rfl rfl ?_
          refine zn_ild hB zd304_55 rfl rfl ?_
          refine zn_zlt hB zd304_56 rfl (fun h56 => ?_) (fun h56 => ?_)
          · refine zn_con hB zd304_65 rfl ?_
            refine zn_goto hB zd304_66 rfl ?_
            exact hret _ _ _ _ _ zd304_75 trivial ⟨rfl, rfl, _, rfl, by omega, by omega⟩
          · refine zn_ild hB zd304_59 rfl rfl ?_
            refine zn_con hB zd304_60 rfl ?_
            refine zn_clt hB zd304_62 rfl (fun h62 => ?_) (fun h62 => ?_)
            · refine zn_con hB zd304_69 rfl ?_
              refine zn_ild hB zd304_71 rfl rfl ?_
              refine zn_imul hB zd304_72 (by omega) (by omega) ?_
              refine zn_ild hB zd304_73 rfl rfl ?_
              refine zn_iadd hB zd304_74 (by omega) (by omega) ?_
              exact hret _ _ _ _ _ zd304_75 trivial ⟨rfl, rfl, _, rfl, by omega, by omega⟩
            · refine zn_con hB zd304_65 rfl ?_
              refine zn_goto hB zd304_66 rfl ?_
              exact hret _ _ _ _ _ zd304_75 trivial ⟨rfl, rfl, _, rfl, by omega, by omega⟩
      · refine zn_ild hB zd304_42 rfl rfl ?_
        refine zn_con hB zd304_43 rfl ?_
        refine zn_iadd hB zd304_44 (by omega) (by omega) ?_
        refine zn_ist hB zd304_45 rfl rfl rfl ?_
        refine zn_ild hB zd304_46 rfl rfl ?_
        refine zn_con hB zd304_47 rfl ?_
        refine zn_cne hB zd304_48 rfl (fun h48 => ?_) (fun h48 => ?_)
        · refine zn_ild hB zd304_55 rfl rfl ?_
          refine zn_zlt hB zd304_56 rfl (fun h56 => ?_) (fun h56 => ?_)
          · refine zn_con hB zd304_65 rfl ?_
            refine zn_goto hB zd304_66 rfl ?_
            exact hret _ _ _ _ _ zd304_75 trivial ⟨rfl, rfl, _, rfl, by omega, by omega⟩
          · refine zn_ild hB zd304_59 rfl rfl ?_
            refine zn_con hB zd304_60 rfl ?_
            refine zn_clt hB zd304_62 rfl (fun h62 => ?_) (fun h62 => ?_)
            · refine zn_con hB zd304_69 rfl ?_
              refine zn_ild hB zd304_71 rfl rfl ?_
              refine zn_imul hB zd304_72 (by omega) (by omega) ?_
              refine zn_ild hB zd304_73 rfl rfl ?_
              refine zn_iadd hB zd304_74 (by omega) (by omega) ?_
              exact hret _ _ _ _ _ zd304_75 trivial ⟨rfl, rfl, _, rfl, by omega, by omega⟩
            · refine zn_con hB zd304_65 rfl ?_
              refine zn_goto hB zd304_66 rfl ?_
              exact hret _ _ _ _ _ zd304_75 trivial ⟨rfl, rfl, _, rfl, by omega, by omega⟩
        · refine zn_ild hB zd304_51 rfl rfl ?_
          refine zn_con hB zd304_52 rfl ?_
          refine zn_isub hB zd304_53 (by omega) (by omega) ?_
          refine zn_ist hB zd304_54 rfl rfl rfl ?_
          refine zn_ild hB zd304_55 rfl rfl ?_
          refine zn_zlt hB zd304_56 rfl (fun h56 => ?_) (fun h56 => ?_)
          · refine zn_con hB zd304_65 rfl ?_
            refine zn_goto hB zd304_66 rfl ?_
            exact hret _ _ _ _ _ zd304_75 trivial ⟨rfl, rfl, _, rfl, by omega, by omega⟩
          · refine zn_ild hB zd304_59 rfl rfl ?_
            refine zn_con hB zd304_60 rfl ?_
            refine zn_clt hB zd304_62 rfl (fun h62 => ?_) (fun h62 => ?_)
            · refine zn_con hB zd304_69 rfl ?_
              refine zn_ild hB zd304_71 rfl rfl ?_
              refine zn_imul hB zd304_72 (by omega) (by omega) ?_
              refine zn_ild hB zd304_73 rfl rfl ?_
              refine zn_iadd hB zd304_74 (by omega) (by omega) ?_
              exact hret _ _ _ _ _ zd304_75 trivial ⟨rfl, rfl, _, rfl, by omega, by omega⟩
            · refine zn_con hB zd304_65 rfl ?_
              refine zn_goto hB zd304_66 rfl ?_
              exact hret _ _ _ _ _ zd304_75 trivial ⟨rfl, rfl, _, rfl, by omega, by omega⟩
  · refine zn_ild hB zd304_15 rfl rfl ?_
    refine zn_con hB zd304_16 rfl ?_
    refine zn_iadd hB zd304_17 (by omega) (by omega) ?_
    refine zn_con hB zd304_18 rfl ?_
    refine zn_irem hB zd304_20 (by omega) (by omega) ?_
    refine zn_ist hB zd304_21 rfl rfl rfl ?_
    refine zn_ild hB zd304_22 rfl rfl ?_
    refine zn_con hB zd304_23 rfl ?_
    refine zn_cne hB zd304_24 rfl (fun h24 => ?_) (fun h24 => ?_)
    · refine zn_ild hB zd304_37 rfl rfl ?_
      refine zn_con hB zd304_38 rfl ?_
      refine zn_cne hB zd304_39 rfl (fun h39 => ?_) (fun h39 => ?_)
      · refine zn_ild hB zd304_46 rfl rfl ?_
        refine zn_con hB zd304_47 rfl ?_
        refine zn_cne hB zd304_48 rfl (fun h48 => ?_) (fun h48 => ?_)
        · refine zn_ild hB zd304_55 rfl rfl ?_
          refine zn_zlt hB zd304_56 rfl (fun h56 => ?_) (fun h56 => ?_)
          · refine zn_con hB zd304_65 rfl ?_
            refine zn_goto hB zd304_66 rfl ?_
            exact hret _ _ _ _ _ zd304_75 trivial ⟨rfl, rfl, _, rfl, by omega, by omega⟩
          · refine zn_ild hB zd304_59 rfl rfl ?_
            refine zn_con hB zd304_60 rfl ?_
            refine zn_clt hB zd304_62 rfl (fun h62 => ?_) (fun h62 => ?_)
            · refine zn_con hB zd304_69 rfl ?_
              refine zn_ild hB zd304_71 rfl rfl ?_
              refine zn_imul hB zd304_72 (by omega) (by omega) ?_
              refine zn_ild hB zd304_73 rfl rfl ?_
              refine zn_iadd hB zd304_74 (by omega) (by omega) ?_
              exact hret _ _ _ _ _ zd304_75 trivial ⟨rfl, rfl, _, rfl, by omega, by omega⟩
            · refine zn_con hB zd304_65 rfl ?_
              refine zn_goto hB zd304_66 rfl ?_
              exact hret _ _ _ _ _ zd304_75 trivial ⟨rfl, rfl, _, rfl, by omega, by omega⟩
        · refine zn_ild hB zd304_51 rfl rfl ?_
          refine zn_con hB zd304_52 rfl ?_
          refine zn_isub hB zd304_53 (by omega) (by omega) ?_
          refine zn_ist hB zd304_54 rfl rfl rfl ?_
          refine zn_ild hB zd304_55 rfl rfl ?_
          refine zn_zlt hB zd304_56 rfl (fun h56 => ?_) (fun h56 => ?_)
          · refine zn_con hB zd304_65 rfl ?_
            refine zn_goto hB zd304_66 rfl ?_
            exact hret _ _ _ _ _ zd304_75 trivial ⟨rfl, rfl, _, rfl, by omega, by omega⟩
          · refine zn_ild hB zd304_59 rfl rfl ?_
            refine zn_con hB zd304_60 rfl ?_
            refine zn_clt hB zd304_62 rfl (fun h62 => ?_) (fun h62 => ?_)
            · refine zn_con hB zd304_69 rfl ?_
              refine zn_ild hB zd304_71 rfl rfl ?_
              refine zn_imul hB zd304_72 (by omega) (by omega) ?_
              refine zn_ild hB zd304_73 rfl rfl ?_
              refine zn_iadd hB zd304_74 (by omega) (by omega) ?_
              exact hret _ _ _ _ _ zd304_75 trivial ⟨rfl, rfl, _, rfl, by omega, by omega⟩
            · refine zn_con hB zd304_65 rfl ?_
              refine zn_goto hB zd304_66 rfl ?_
              exact hret _ _ _ _ _ zd304_75 trivial ⟨rfl, rfl, _, rfl, by omega, by omega⟩
      · refine zn_ild hB zd304_42 rfl rfl ?_
        refine zn_con hB zd304_43 rfl ?_
        refine zn_iadd hB zd304_44 (by omega) (by omega) ?_
        refine zn_ist hB zd304_45 rfl rfl rfl ?_
        refine zn_ild hB zd304_46 rfl rfl ?_
        refine zn_con hB zd304_47 rfl ?_
        refine zn_cne hB zd304_48 rfl (fun h48 => ?_) (fun h48 => ?_)
        · refine zn_ild hB zd304_55 rfl rfl ?_
          refine zn_zlt hB zd304_56 rfl (fun h56 => ?_) (fun h56 => ?_)
          · refine zn_con hB zd304_65 rfl ?_
            refine zn_goto hB zd304_66 rfl ?_
            exact hret _ _ _ _ _ zd304_75 trivial ⟨rfl, rfl, _, rfl, by omega, by omega⟩
          · refine zn_ild hB zd304_59 rfl rfl ?_
            refine zn_con hB zd304_60 rfl ?_
            refine zn_clt hB zd304_62 rfl (fun h62 => ?_) (fun h62 => ?_)
            · refine zn_con hB zd304_69 rfl ?_
              refine zn_ild hB zd304_71 rfl rfl ?_
              refine zn_imul hB zd304_72 (by omega) (by omega) ?_
              refine zn_ild hB zd304_73 rfl rfl ?_
              refine zn_iadd hB zd304_74 (by omega) (by omega) ?_
              exact hret _ _ _ _ _ zd304_75 trivial ⟨rfl, rfl, _, rfl, by omega, by omega⟩
            · refine zn_con hB zd304_65 rfl ?_
              refine zn_goto hB zd304_66 rfl ?_
              exact hret _ _ _ _ _ zd304_75 trivial ⟨rfl, rfl, _, rfl, by omega, by omega⟩
        · refine zn_ild hB zd304_51 rfl rfl ?_
          refine zn_con hB zd304_52 rfl ?_
          refine zn_isub hB zd304_53 (by omega) (by omega) ?_
          refine zn_ist hB zd304_54 rfl rfl rfl ?_
          refine zn_ild hB zd304_55 rfl rfl ?_
          refine zn_zlt hB zd304_56 rfl (fun h56 => ?_) (fun h56 => ?_)
          · refine zn_con hB zd304_65 rfl ?_
            refine zn_goto hB zd304_66 rfl ?_
            exact hret _ _ _ _ _ zd304_75 trivial ⟨rfl, rfl, _, rfl, by omega, by omega⟩
          · refine zn_ild hB zd304_59 rfl rfl ?_
            refine zn_con hB zd304_60 rfl ?_
            refine zn_clt hB zd304_62 rfl (fun h62 => ?_) (fun h62 => ?_)
            · refine zn_con hB zd304_69 rfl ?_
              refine zn_ild hB zd304_71 rfl rfl ?_
              refine zn_imul hB zd304_72 (by omega) (by omega) ?_
              refine zn_ild hB zd304_73 rfl rfl ?_
              refine zn_iadd hB zd304_74 (by omega) (by omega) ?_
              exact hret _ _ _ _ _ zd304_75 trivial ⟨rfl, rfl, _, rfl, by omega, by omega⟩
            · refine zn_con hB zd304_65 rfl ?_
              refine zn_goto hB zd304_66 rfl ?_
              exact hret _ _ _ _ _ zd304_75 trivial ⟨rfl, rfl, _, rfl, by omega, by omega⟩
    · refine zn_ild hB zd304_27 rfl rfl ?_
      refine zn_con hB zd304_28 rfl ?_
      refine zn_iadd hB zd304_30 (by omega) (by omega) ?_
      refine zn_con hB zd304_31 rfl ?_
      refine zn_isub hB zd304_32 (by omega) (by omega) ?_
      refine zn_con hB zd304_33 rfl ?_
      refine zn_irem hB zd304_35 (by omega) (by omega) ?_
      refine zn_ist hB zd304_36 rfl rfl rfl ?_
      refine zn_ild hB zd304_37 rfl rfl ?_
      refine zn_con hB zd304_38 rfl ?_
      refine zn_cne hB zd304_39 rfl (fun h39 => ?_) (fun h39 => ?_)
      · refine zn_ild hB zd304_46 rfl rfl ?_
        refine zn_con hB zd304_47 rfl ?_
        refine zn_cne hB zd304_48 rfl (fun h48 => ?_) (fun h48 => ?_)
        · refine zn_ild hB zd304_55 rfl rfl ?_
          refine zn_zlt hB zd304_56 rfl (fun h56 => ?_) (fun h56 => ?_)
          · refine zn_con hB zd304_65 rfl ?_
            refine zn_goto hB zd304_66 rfl ?_
            exact hret _ _ _ _ _ zd304_75 trivial ⟨rfl, rfl, _, rfl, by omega, by omega⟩
          · refine zn_ild hB zd304_59 rfl rfl ?_
            refine zn_con hB zd304_60 rfl ?_
            refine zn_clt hB zd304_62 rfl (fun h62 => ?_) (fun h62 => ?_)
            · refine zn_con hB zd304_69 rfl ?_
              refine zn_ild hB zd304_71 rfl rfl ?_
              refine zn_imul hB zd304_72 (by omega) (by omega) ?_
              refine zn_ild hB zd304_73 rfl rfl ?_
              refine zn_iadd hB zd304_74 (by omega) (by omega) ?_
              exact hret _ _ _ _ _ zd304_75 trivial ⟨rfl, rfl, _, rfl, by omega, by omega⟩
            · refine zn_con hB zd304_65 rfl ?_
              refine zn_goto hB zd304_66 rfl ?_
              exact hret _ _ _ _ _ zd304_75 trivial ⟨rfl, rfl, _, rfl, by omega, by omega⟩
        · refine zn_ild hB zd304_51 rfl rfl ?_
          refine zn_con hB zd304_52 rfl ?_
          refine zn_isub hB zd304_53 (by omega) (by omega) ?_
          refine zn_ist hB zd304_54 rfl rfl rfl ?_
          refine zn_ild hB zd304_55 rfl rfl ?_
          refine zn_zlt hB zd304_56 rfl (fun h56 => ?_) (fun h56 => ?_)
          · refine zn_con hB zd304_65 rfl ?_
            refine zn_goto hB zd304_66 rfl ?_
            exact hret _ _ _ _ _ zd304_75 trivial ⟨rfl, rfl, _, rfl, by omega, by omega⟩
          · refine zn_ild hB zd304_59 rfl rfl ?_
            refine zn_con hB zd304_60 rfl ?_
            refine zn_clt hB zd304_62 rfl (fun h62 => ?_) (fun h62 => ?_)
            · refine zn_con hB zd304_69 rfl ?_
              refine zn_ild hB zd304_71 rfl rfl ?_
              refine zn_imul hB zd304_72 (by omega) (by omega) ?_
              refine zn_ild hB zd304_73 rfl rfl ?_
              refine zn_iadd hB zd304_74 (by omega) (by omega) ?_
              exact hret _ _ _ _ _ zd304_75 trivial ⟨rfl, rfl, _, rfl, by omega, by omega⟩
            · refine zn_con hB zd304_65 rfl ?_
              refine zn_goto hB zd304_66 rfl ?_
              exact hret _ _ _ _ _ zd304_75 trivial ⟨rfl, rfl, _, rfl, by omega, by omega⟩
      · refine zn_ild hB zd304_42 rfl rfl ?_
        refine zn_con hB zd304_43 rfl ?_
        refine zn_iadd hB zd304_44 (by omega) (by omega) ?_
        refine zn_ist hB zd304_45 rfl rfl rfl ?_
        refine zn_ild hB zd304_46 rfl rfl ?_
        refine zn_con hB zd304_47 rfl ?_
        refine zn_cne hB zd304_48 rfl (fun h48 => ?_) (fun h48 => ?_)
        · refine zn_ild hB zd304_55 rfl rfl ?_
          refine zn_zlt hB zd304_56 rfl (fun h56 => ?_) (fun h56 => ?_)
          · refine zn_con hB zd304_65 rfl ?_
            refine zn_goto hB zd304_66 rfl ?_
            exact hret _ _ _ _ _ zd304_75 trivial ⟨rfl, rfl, _, rfl, by omega, by omega⟩
          · refine zn_ild hB zd304_59 rfl rfl ?_
            refine zn_con hB zd304_60 rfl ?_
            refine zn_clt hB zd304_62 rfl (fun h62 => ?_) (fun h62 => ?_)
            · refine zn_con hB zd304_69 rfl ?_
              refine zn_ild hB zd304_71 rfl rfl ?_
              refine zn_imul hB zd304_72 (by omega) (by omega) ?_
              refine zn_ild hB zd304_73 rfl rfl ?_
              refine zn_iadd hB zd304_74 (by omega) (by omega) ?_
              exact hret _ _ _ _ _ zd304_75 trivial ⟨rfl, rfl, _, rfl, by omega, by omega⟩
            · refine zn_con hB zd304_65 rfl ?_
              refine zn_goto hB zd304_66 rfl ?_
              exact hret _ _ _ _ _ zd304_75 trivial ⟨rfl, rfl, _, rfl, by omega, by omega⟩
        · refine zn_ild hB zd304_51 rfl rfl ?_
          refine zn_con hB zd304_52 rfl ?_
          refine zn_isub hB zd304_53 (by omega) (by omega) ?_
          refine zn_ist hB zd304_54 rfl rfl rfl ?_
          refine zn_ild hB zd304_55 rfl rfl ?_
          refine zn_zlt hB zd304_56 rfl (fun h56 => ?_) (fun h56 => ?_)
          · refine zn_con hB zd304_65 rfl ?_
            refine zn_goto hB zd304_66 rfl ?_
            exact hret _ _ _ _ _ zd304_75 trivial ⟨rfl, rfl, _, rfl, by omega, by omega⟩
          · refine zn_ild hB zd304_59 rfl rfl ?_
            refine zn_con hB zd304_60 rfl ?_
            refine zn_clt hB zd304_62 rfl (fun h62 => ?_) (fun h62 => ?_)
            · refine zn_con hB zd304_69 rfl ?_
              refine zn_ild hB zd304_71 rfl rfl ?_
              refine zn_imul hB zd304_72 (by omega) (by omega) ?_
              refine zn_ild hB zd304_73 rfl rfl ?_
              refine zn_iadd hB zd304_74 (by omega) (by omega) ?_
              exact hret _ _ _ _ _ zd304_75 trivial ⟨rfl, rfl, _, rfl, by omega, by omega⟩
            · refine zn_con hB zd304_65 rfl ?_
              refine zn_goto hB zd304_66 rfl ?_
              exact hret _ _ _ _ _ zd304_75 trivial ⟨rfl, rfl, _, rfl, by omega, by omega⟩
theorem zd212_0 : decode zxm212.2.1 0 = .ok (.aload_n 0, 1) := by decide +kernel
theorem zd212_1 : decode zxm212.2.1 1 = .ok (.getfield 7, 3) := by decide +kernel
theorem zd212_4 : decode zxm212.2.1 4 = .ok (.sipush 134, 3) := by decide +kernel
theorem zd212_7 : decode zxm212.2.1 7 = .ok (.iload_n 1, 1) := by decide +kernel
theorem zd212_8 : decode zxm212.2.1 8 = .ok (.iadd, 1) := by decide +kernel
theorem zd212_9 : decode zxm212.2.1 9 = .ok (.iaload, 1) := by decide +kernel
theorem zd212_10 : decode zxm212.2.1 10 = .ok (.iconst 1, 1) := by decide +kernel
theorem zd212_11 : decode zxm212.2.1 11 = .ok (.if_icmp .ne 7, 3) := by decide +kernel
theorem zd212_14 : decode zxm212.2.1 14 = .ok (.iconst 1, 1) := by decide +kernel
theorem zd212_15 : decode zxm212.2.1 15 = .ok (.goto 4, 3) := by decide +kernel
theorem zd212_18 : decode zxm212.2.1 18 = .ok (.iconst 0, 1) := by decide +kernel
theorem zd212_19 : decode zxm212.2.1 19 = .ok (.ireturn, 1) := by decide +kernel
theorem zh212 {a : Int} : zn_OK z_TB z_cl z_KX zySa zxm212 (0, 0) (fun va F G => va = [.inr 0, .inl a] ∧ G = now :: Gr ∧ 0 ≤ a ∧ a < 288) (fun va F G r F' G' => F' = F ∧ G' = G ∧ (r = some 0 ∨ r = some 1)) := zn_meth (K := zkM) (FT := z_FT) (MT := z_MT) (n := 2) zxp212 (z_ks13 _ (fun _ h => List.mem_cons_of_mem _ h) _ _ _ _ (fun j r h _ => by cases h)) (fun _ _ => zs_KX_p) (by decide +kernel) (fun va F G h => by obtain ⟨rfl, _⟩ := h; rfl) rfl fun good va F G hB hret hvret hP => by
  obtain ⟨rfl, rfl, h0, h1⟩ := hP
  refine zn_ald hB zd212_0 rfl rfl rfl ?_
  refine zn_getr hB zd212_1 rfl ?_
  refine zn_con hB zd212_4 rfl ?_
  refine zn_ild hB zd212_7 rfl rfl ?_
  refine zn_iadd hB zd212_8 (by omega) (by omega) ?_
  refine zn_iald hB zd212_9 rfl rfl (by omega) (by omega) (fun q9 r9 => ?_)
  refine zn_con hB zd212_10 rfl ?_
  refine zn_cne hB zd212_11 rfl (fun h11 => ?_) (fun h11 => ?_)
  · refine zn_con hB zd212_18 rfl ?_
    refine hret _ _ _ _ _ zd212_19 (by constructor <;> decide) ⟨rfl, rfl, ?_⟩
    first | exact Or.inl rfl | exact Or.inr rfl
  · refine zn_con hB zd212_14 rfl ?_
    refine zn_goto hB zd212_15 rfl ?_
    refine hret _ _ _ _ _ zd212_19 (by constructor <;> decide) ⟨rfl, rfl, ?_⟩
    first | exact Or.inl rfl | exact Or.inr rfl
theorem zd303_0 : decode zxm303.2.1 0 = .ok (.iconst 0, 1) := by decide +kernel
theorem zd303_1 : decode zxm303.2.1 1 = .ok (.istore_n 3, 1) := by decide +kernel
theorem zd303_2 : decode zxm303.2.1 2 = .ok (.iload_n 3, 1) := by decide +kernel
theorem zd303_3 : decode zxm303.2.1 3 = .ok (.sipush 288, 3) := by decide +kernel
theorem zd303_6 : decode zxm303.2.1 6 = .ok (.if_icmp .ge 15, 3) := by decide +kernel
theorem zd303_9 : decode zxm303.2.1 9 = .ok (.aload_n 2, 1) := by decide +kernel
theorem zd303_10 : decode zxm303.2.1 10 = .ok (.iload_n 3, 1) := by decide +kernel
theorem zd303_11 : decode zxm303.2.1 11 = .ok (.ldc_w 391, 3) := by decide +kernel
theorem zd303_14 : decode zxm303.2.1 14 = .ok (.iastore, 1) := by decide +kernel
theorem zd303_15 : decode zxm303.2.1 15 = .ok (.iinc 3 1, 3) := by decide +kernel
theorem zd303_18 : decode zxm303.2.1 18 = .ok (.goto (-16), 3) := by decide +kernel
theorem zd303_21 : decode zxm303.2.1 21 = .ok (.aload_n 2, 1) := by decide +kernel
theorem zd303_22 : decode zxm303.2.1 22 = .ok (.iload_n 1, 1) := by decide +kernel
theorem zd303_23 : decode zxm303.2.1 23 = .ok (.iconst 0, 1) := by decide +kernel
theorem zd303_24 : decode zxm303.2.1 24 = .ok (.iastore, 1) := by decide +kernel
theorem zd303_25 : decode zxm303.2.1 25 = .ok (.aload_n 0, 1) := by decide +kernel
theorem zd303_26 : decode zxm303.2.1 26 = .ok (.getfield 119, 3) := by decide +kernel
theorem zd303_29 : decode zxm303.2.1 29 = .ok (.iconst 0, 1) := by decide +kernel
theorem zd303_30 : decode zxm303.2.1 30 = .ok (.iload_n 1, 1) := by decide +kernel
theorem zd303_31 : decode zxm303.2.1 31 = .ok (.iastore, 1) := by decide +kernel
theorem zd303_32 : decode zxm303.2.1 32 = .ok (.iconst 1, 1) := by decide +kernel
theorem zd303_33 : decode zxm303.2.1 33 = .ok (.istore_n 3, 1) := by decide +kernel
theorem zd303_34 : decode zxm303.2.1 34 = .ok (.iconst 0, 1) := by decide +kernel
theorem zd303_35 : decode zxm303.2.1 35 = .ok (.istore 4, 2) := by decide +kernel
theorem zd303_37 : decode zxm303.2.1 37 = .ok (.iload 4, 2) := by decide +kernel
theorem zd303_39 : decode zxm303.2.1 39 = .ok (.iload_n 3, 1) := by decide +kernel
theorem zd303_40 : decode zxm303.2.1 40 = .ok (.if_icmp .ge 93, 3) := by decide +kernel
theorem zd303_43 : decode zxm303.2.1 43 = .ok (.iconst 1, 1) := by decide +kernel
theorem zd303_44 : decode zxm303.2.1 44 = .ok (.istore 5, 2) := by decide +kernel
theorem zd303_46 : decode zxm303.2.1 46 = .ok (.iload 5, 2) := by decide +kernel
theorem zd303_48 : decode zxm303.2.1 48 = .ok (.iconst 4, 1) := by decide +kernel
theorem zd303_49 : decode zxm303.2.1 49 = .ok (.if_icmp .gt 78, 3) := by decide +kernel
theorem zd303_52 : decode zxm303.2.1 52 = .ok (.aload_n 0, 1) := by decide +kernel
theorem zd303_53 : decode zxm303.2.1 53 = .ok (.getfield 119, 3) := by decide +kernel
theorem zd303_56 : decode zxm303.2.1 56 = .ok (.iload 4, 2) := by decide +kernel
theorem zd303_58 : decode zxm303.2.1 58 = .ok (.iaload, 1) := by decide +kernel
theorem zd303_59 : decode zxm303.2.1 59 = .ok (.iload 5, 2) := by decide +kernel
theorem zd303_61 : decode zxm303.2.1 61 = .ok (.invokestatic 440, 3) := by decide +kernel
theorem zd303_64 : decode zxm303.2.1 64 = .ok (.istore 6, 2) := by decide +kernel
theorem zd303_66 : decode zxm303.2.1 66 = .ok (.iload 6, 2) := by decide +kernel
theorem zd303_68 : decode zxm303.2.1 68 = .ok (.iconst (-1), 1) := by decide +kernel
theorem zd303_69 : decode zxm303.2.1 69 = .ok (.if_icmp .eq 52, 3) := by decide +kernel
theorem zd303_72 : decode zxm303.2.1 72 = .ok (.aload_n 0, 1) := by decide +kernel
theorem zd303_73 : decode zxm303.2.1 73 = .ok (.iload 6, 2) := by decide +kernel
theorem zd303_75 : decode zxm303.2.1 75 = .ok (.invokevirtual 165, 3) := by decide +kernel
theorem zd303_78 : decode zxm303.2.1 78 = .ok (.ifCond .ne 43, 3) := by decide +kernel
theorem zd303_81 : decode zxm303.2.1 81 = .ok (.aload_n 2, 1) := by decide +kernel
theorem zd303_82 : decode zxm303.2.1 82 = .ok (.iload 6, 2) := by decide +kernel
theorem zd303_84 : decode zxm303.2.1 84 = .ok (.iaload, 1) := by decide +kernel
theorem zd303_85 : decode zxm303.2.1 85 = .ok (.ldc_w 391, 3) := by decide +kernel
theorem zd303_88 : decode zxm303.2.1 88 = .ok (.if_icmp .ge 6, 3) := by decide +kernel
theorem zd303_91 : decode zxm303.2.1 91 = .ok (.goto 30, 3) := by decide +kernel
theorem zd303_94 : decode zxm303.2.1 94 = .ok (.aload_n 2, 1) := by decide +kernel
theorem zd303_95 : decode zxm303.2.1 95 = .ok (.iload 6, 2) := by decide +kernel
theorem zd303_97 : decode zxm303.2.1 97 = .ok (.aload_n 2, 1) := by decide +kernel
theorem zd303_98 : decode zxm303.2.1 98 = .ok (.aload_n 0, 1) := by decide +kernel
theorem zd303_99 : decode zxm303.2.1 99 = .ok (.getfield 119, 3) := by decide +kernel
theorem zd303_102 : decode zxm303.2.1 102 = .ok (.iload 4, 2) := by decide +kernel
theorem zd303_104 : decode zxm303.2.1 104 = .ok (.iaload, 1) := by decide +kernel
theorem zd303_105 : decode zxm303.2.1 105 = .ok (.iaload, 1) := by decide +kernel
theorem zd303_106 : decode zxm303.2.1 106 = .ok (.iconst 1, 1) := by decide +kernel
theorem zd303_107 : decode zxm303.2.1 107 = .ok (.iadd, 1) := by decide +kernel
theorem zd303_108 : decode zxm303.2.1 108 = .ok (.iastore, 1) := by decide +kernel
theorem zd303_109 : decode zxm303.2.1 109 = .ok (.aload_n 0, 1) := by decide +kernel
theorem zd303_110 : decode zxm303.2.1 110 = .ok (.getfield 119, 3) := by decide +kernel
theorem zd303_113 : decode zxm303.2.1 113 = .ok (.iload_n 3, 1) := by decide +kernel
theorem zd303_114 : decode zxm303.2.1 114 = .ok (.iload 6, 2) := by decide +kernel
theorem zd303_116 : decode zxm303.2.1 116 = .ok (.iastore, 1) := by decide +kernel
theorem zd303_117 : decode zxm303.2.1 117 = .ok (.iload_n 3, 1) := by decide +kernel
theorem zd303_118 : decode zxm303.2.1 118 = .ok (.iconst 1, 1) := by decide +kernel
theorem zd303_119 : decode zxm303.2.1 119 = .ok (.iadd, 1) := by decide +kernel
theorem zd303_120 : decode zxm303.2.1 120 = .ok (.istore_n 3, 1) := by decide +kernel
theorem zd303_121 : decode zxm303.2.1 121 = .ok (.iinc 5 1, 3) := by decide +kernel
theorem zd303_124 : decode zxm303.2.1 124 = .ok (.goto (-78), 3) := by decide +kernel
theorem zd303_127 : decode zxm303.2.1 127 = .ok (.iinc 4 1, 3) := by decide +kernel
theorem zd303_130 : decode zxm303.2.1 130 = .ok (.goto (-93), 3) := by decide +kernel
theorem zd303_133 : decode zxm303.2.1 133 = .ok (.return_, 1) := by decide +kernel
theorem zh303  : zn_OK z_TB z_cl z_KX zySa zxm303 (1, 60) (fun va F G => va = [.inr 0, .inl fr, .inr 3] ∧ G = now :: queue :: far :: Gr ∧ 0 ≤ fr ∧ fr < 288) (fun va F G r F' G' => r = none ∧ F' = F ∧ ∃ queue' far', G' = now :: queue' :: far' :: Gr ∧ (∀ j, 0 ≤ j → j < 288 → 0 ≤ far' j ∧ far' j ≤ 1000000000)) := zn_meth (K := zkM) (FT := z_FT) (MT := z_MT) (n := 3) zxp303 (z_ks13 _ (fun _ h => List.mem_cons_of_mem _ h) _ _ _ _ (fun j r h _ => by cases h)) (fun _ _ => zs_KX_p) (by decide +kernel) (fun va F G h => by obtain ⟨rfl, _⟩ := h; rfl) rfl fun good va F G hB hret hvret hP => by
  obtain ⟨rfl, rfl, h0, h1⟩ := hP
  have inner : ∀ (m : Nat) (n k how : Int) (x : zNV) (queue far : Int → Int), 5 - how < m → 1 ≤ how → how ≤ 5 → (∀ j, 0 ≤ j → j < 288 → 0 ≤ far j ∧ far j ≤ 1000000000) → zs_cnt far 288 = n → (∀ j, 0 ≤ j → j < n → 0 ≤ queue j ∧ queue j < 288 ∧ far (queue j) ≤ j) → 1 ≤ n → 0 ≤ k → k < n → (∀ (n' : Int) (x : zNV) (queue' far' : Int → Int), (∀ j, 0 ≤ j → j < 288 → 0 ≤ far' j ∧ far' j ≤ 1000000000) → zs_cnt far' 288 = n' → (∀ j, 0 ≤ j → j < n' → 0 ≤ queue' j ∧ queue' j < 288 ∧ far' (queue' j) ≤ j) → n ≤ n' → good 127 [.inr 0, .inl fr, .inr 3, .inl n', .inl k, .inl 5, x] [] F (now :: queue' :: far' :: Gr)) → good 46 [.inr 0, .inl fr, .inr 3, .inl n, .inl k, .inl how, x] [] F (now :: queue :: far :: Gr) := by
    intro m
    induction m with
    | zero =>
      intro n k how x queue far c1 c2 c3
      exfalso; omega
    | succ m ih =>
      intro n k how x queue far c1 c2 c3 e1 e2 e3 e4 e5 e6 fin
      have hn := zs_cnt_le (far := far) (i := 288)
      obtain ⟨d1, d2, d3⟩ := e3 k e5 e6
      have d4 := e1 _ d1 d2
      refine zn_ild hB zd303_46 rfl rfl ?_
      refine zn_con hB zd303_48 rfl ?_
      refine zn_cgt hB zd303_49 rfl (fun h49 => ?_) (fun h49 => ?_)
      · have e9 : how = 5 := by omega
        subst e9
        exact fin _ _ _ _ e1 e2 e3 (Int.le_refl _)
      · refine zn_ald hB zd303_52 rfl rfl rfl ?_
        refine zn_getr hB zd303_53 rfl ?_
        refine zn_ild hB zd303_56 rfl rfl ?_
        refine zn_iald hB zd303_58 rfl rfl (by omega) (by omega) (fun q58 r58 => ?_)
        refine zn_ild hB zd303_59 rfl rfl ?_
        refine zn_it2 hB zh304 zd303_61 zxt304 rfl ⟨rfl, d1, d2⟩ (fun r61 F61 G61 hq61 => ?_)
        obtain ⟨rfl, rfl, v, rfl, v1, v2⟩ := hq61
        refine zn_ist hB zd303_64 rfl rfl rfl ?_
        refine zn_ild hB zd303_66 rfl rfl ?_
        refine zn_con hB zd303_68 rfl ?_
        refine zn_ceq hB zd303_69 rfl (fun h69 => ?_) (fun h69 => ?_)
        · refine zn_iinc hB zd303_121 rfl rfl (by omega) (by omega) ?_
          refine zn_goto hB zd303_124 rfl ?_
          exact ih _ _ _ _ _ _ (by omega) (by omega) (by omega) e1 e2 e3 e4 e5 e6 fin
        · refine zn_ald hB zd303_72 rfl rfl rfl ?_
          refine zn_ild hB zd303_73 rfl rfl ?_
          refine zn_iv1 hB zh212 zd303_75 zxt212 rfl ⟨rfl, rfl, by omega, v2⟩ (fun r75 F75 G75 hq75 => ?_)
          obtain ⟨rfl, rfl, hx75⟩ := hq75
          rcases hx75 with rfl | rfl
          · refine zn_zne hB zd303_78 rfl (fun h78 => ?_) (fun h78 => ?_)
            · exfalso; omega
            · refine zn_ald hB zd303_81 rfl rfl rfl ?_
              refine zn_ild hB zd303_82 rfl rfl ?_
              refine zn_iald hB zd303_84 rfl rfl (by omega) (by omega) (fun q84 r84 => ?_)
              refine zn_con (n := 1000000000) hB zd303_85 (by decide +kernel) ?_
              refine zn_cge hB zd303_88 rfl (fun h88 => ?_) (fun h88 => ?_)
              · have w1 := e1 v (by omega) v2
                have hc := zs_cnt_up (far := far) (p := v) (v := far (queue k) + 1) (by omega) h88 (by omega) (i := 288)
                rw [if_pos (by omega)] at hc
                have hn2 := zs_cnt_le (far := zn_up far v (far (queue k) + 1)) (i := 288)
                refine zn_ald hB zd303_94 rfl rfl rfl ?_
                refine zn_ild hB zd303_95 rfl rfl ?_
                refine zn_ald hB zd303_97 rfl rfl rfl ?_
                refine zn_ald hB zd303_98 rfl rfl rfl ?_
                refine zn_getr hB zd303_99 rfl ?_
                refine zn_ild hB zd303_102 rfl rfl ?_
                refine zn_iald hB zd303_104 rfl rfl (by omega) (by omega) (fun q104 r104 => ?_)
                refine zn_iald hB zd303_105 rfl rfl (by omega) (by omega) (fun q105 r105 => ?_)
                refine zn_con hB zd303_106 rfl ?_
                refine zn_iadd hB zd303_107 (by omega) (by omega) ?_
                refine zn_iast hB zd303_108 rfl rfl (by omega) (by omega) ?_
                refine zn_ald hB zd303_109 rfl rfl rfl ?_
                refine zn_getr hB zd303_110 rfl ?_
                refine zn_ild hB zd303_113 rfl rfl ?_
                refine zn_ild hB zd303_114 rfl rfl ?_
                refine zn_iast hB zd303_116 rfl rfl (by omega) (by omega) ?_
                refine zn_ild hB zd303_117 rfl rfl ?_
                refine zn_con hB zd303_118 rfl ?_
                refine zn_iadd hB zd303_119 (by omega) (by omega) ?_
                refine zn_ist hB zd303_120 rfl rfl rfl ?_
                refine zn_iinc hB zd303_121 rfl rfl (by omega) (by omega) ?_
                refine zn_goto hB zd303_124 rfl ?_
                refine ih _ _ _ _ _ _ (by omega) (by omega) (by omega) (fun j j1 j2 => ?_) (by rw [hc]; omega) (fun j j1 j2 => ?_) (by omega) e5 (by omega) (fun n' x queue' far' g1 g2 g3 g4 => fin n' x queue' far' g1 g2 g3 (by omega))
                · by_cases e : j = v
                  · rw [e, zn_up_s]; omega
                  · rw [zn_up_n e]; exact e1 j j1 j2
                · by_cases e : j = n
                  · rw [e, zn_up_s, zn_up_s]; exact ⟨by omega, v2, by omega⟩
                  · rw [zn_up_n e]
                    obtain ⟨y1, y2, y3⟩ := e3 j j1 (by omega)
                    refine ⟨y1, y2, ?_⟩
                    by_cases e9 : queue j = v
                    · rw [e9] at y3; omega
                    · rw [zn_up_n e9]; exact y3
              · refine zn_goto hB zd303_91 rfl ?_
                refine zn_iinc hB zd303_121 rfl rfl (by omega) (by omega) ?_
                refine zn_goto hB zd303_124 rfl ?_
                exact ih _ _ _ _ _ _ (by omega) (by omega) (by omega) e1 e2 e3 e4 e5 e6 fin
          · refine zn_zne hB zd303_78 rfl (fun h78 => ?_) (fun h78 => ?_)
            · refine zn_iinc hB zd303_121 rfl rfl (by omega) (by omega) ?_
              refine zn_goto hB zd303_124 rfl ?_
              exact ih _ _ _ _ _ _ (by omega) (by omega) (by omega) e1 e2 e3 e4 e5 e6 fin
            · exfalso; omega
  have outer : ∀ (m : Nat) (n k : Int) (x5 x6 : zNV) (queue far : Int → Int), 288 - k < m → (∀ j, 0 ≤ j → j < 288 → 0 ≤ far j ∧ far j ≤ 1000000000) → zs_cnt far 288 = n → (∀ j, 0 ≤ j → j < n → 0 ≤ queue j ∧ queue j < 288 ∧ far (queue j) ≤ j) → 1 ≤ n → 0 ≤ k → k ≤ n → good 37 [.inr 0, .inl fr, .inr 3, .inl n, .inl k, x5, x6] [] F (now :: queue :: far :: Gr) := by
    intro m
    induction m with
    | zero =>
      intro n k x5 x6 queue far c1 e1 e2 e3 e4 e5 e6
      have hn := zs_cnt_le (far := far) (i := 288)
      exfalso; omega
    | succ m ih =>
      intro n k x5 x6 queue far c1 e1 e2 e3 e4 e5 e6
      refine zn_ild hB zd303_37 rfl rfl ?_
      refine zn_ild hB zd303_39 rfl rfl ?_
      refine zn_cge hB zd303_40 rfl (fun h40 => ?_) (fun h40 => ?_)
      · exact hvret _ _ _ _ zd303_133 trivial ⟨rfl, rfl, _, _, rfl, e1⟩
      · refine zn_con hB zd303_43 rfl ?_
        refine zn_ist hB zd303_44 rfl rfl rfl ?_
        refine inner 5 _ _ 1 _ _ _ (by omega) (by omega) (by omega) e1 e2 e3 e4 e5 (by omega) (fun n' x queue' far' g1 g2 g3 g4 => ?_)
        have hn3 := zs_cnt_le (far := far') (i := 288)
        refine zn_iinc hB zd303_127 rfl rfl (by omega) (by omega) ?_
        refine zn_goto hB zd303_130 rfl ?_
        exact ih _ _ _ _ _ _ (by omega) g1 g2 g3 (by omega) (by omega) (by omega)
  have fill : ∀ (m : Nat) (k : Int) (far : Int → Int), 288 - k < m → 0 ≤ k → k ≤ 288 → (∀ j, 0 ≤ j → j < k → far j = 1000000000) → good 2 [.inr 0, .inl fr, .inr 3, .inl k, .inr 1000, .inr 1000, .inr 1000] [] F (now :: queue :: far :: Gr) := by
    intro m
    induction m with
    | zero =>
      intro k far c1 c2 c3 c4
      exfalso; omega
    | succ m ih =>
      intro k far c1 c2 c3 c4
      refine zn_ild hB zd303_2 rfl rfl ?_
      refine zn_con hB zd303_3 rfl ?_
      refine zn_cge hB zd303_6 rfl (fun h6 => ?_) (fun h6 => ?_)
      · refine zn_ald hB zd303_21 rfl rfl rfl ?_
        refine zn_ild hB zd303_22 rfl rfl ?_
        refine zn_con hB zd303_23 rfl ?_
        refine zn_iast hB zd303_24 rfl rfl (by omega) (by omega) ?_
        refine zn_ald hB zd303_25 rfl rfl rfl ?_
        refine zn_getr hB zd303_26 rfl ?_
        refine zn_con hB zd303_29 rfl ?_
        refine zn_ild hB zd303_30 rfl rfl ?_
        refine zn_iast hB zd303_31 rfl rfl (by omega) (by omega) ?_
        refine zn_con hB zd303_32 rfl ?_
        refine zn_ist hB zd303_33 rfl rfl rfl ?_
        refine zn_con hB zd303_34 rfl ?_
        refine zn_ist hB zd303_35 rfl rfl rfl ?_
        have hc := zs_cnt_up (far := far) (p := fr) (v := 0) h0 (by rw [c4 fr h0 (by omega)]; exact Int.le_refl _) (by omega) (i := 288)
        rw [if_pos (by omega), zs_cnt_none (far := far) (i := 288) (fun j j1 j2 => by rw [c4 j j1 (by omega)]; exact Int.le_refl _)] at hc
        refine outer 289 1 0 _ _ _ _ (by omega) (fun j j1 j2 => ?_) (by omega) (fun j j1 j2 => ?_) (by omega) (by omega) (by omega)
        · by_cases e : j = fr
          · rw [e, zn_up_s]; omega
          · rw [zn_up_n e, c4 j j1 (by omega)]; omega
        · have ej : j = 0 := by omega
          rw [ej, zn_up_s, zn_up_s]; exact ⟨h0, h1, Int.le_refl _⟩
      · refine zn_ald hB zd303_9 rfl rfl rfl ?_
        refine zn_ild hB zd303_10 rfl rfl ?_
        refine zn_con (n := 1000000000) hB zd303_11 (by decide +kernel) ?_
        refine zn_iast hB zd303_14 rfl rfl (by omega) (by omega) ?_
        refine zn_iinc hB zd303_15 rfl rfl (by omega) (by omega) ?_
        refine zn_goto hB zd303_18 rfl ?_
        refine ih _ _ (by omega) (by omega) (by omega) (fun j j1 j2 => ?_)
        by_cases e : j = k
        · rw [e, zn_up_s]
        · rw [zn_up_n e]; exact c4 j j1 (by omega)
  refine zn_con hB zd303_0 rfl ?_
  refine zn_ist hB zd303_1 rfl rfl rfl ?_
  exact fill 289 0 far (by omega) (by omega) (by omega) (fun j j1 j2 => by omega)
end ZSAILS
