/-! Methods as functions, and that they do what these do. -/
/-! M_takesLog (I)Z -/
-- names: 0 StarTalesModel('arg', 0), 1 (0, 12)(0, 12, 60), 2 (1, 220)(0, 12, 3), 3 (0, 12)(0, 12, 61)
-- fields: ; arrays: g0 = 1, g1 = 2, g2 = 3; out: [('ret', None), ('g', 0), ('g', 2)]
abbrev zy_M_takesLog : zNL := (4, [(0, 12)], [], [(0, 12, 60, 1), (0, 12, 3, 2), (0, 12, 61, 3)], [(1, 0, 12, 0), (2, 1, 220, 1), (3, 0, 12, 2)])
theorem zyw_M_takesLog : zv_wf zy_M_takesLog = true := by decide +kernel
theorem zye_M_takesLog : zv_ek2 zy_M_takesLog = true := by decide +kernel
def zf_M_takesLog_l0_b (x1 : Int) (g1 : (Int → Int)) (rec : Int → (Int → Int) → (Int → Int) → Option ((((Int → Int) × (Int → Int)) ⊕ (Int × (Int → Int) × (Int → Int))))) (x2 : Int) (g0 : (Int → Int)) (g2 : (Int → Int)) : Option ((((Int → Int) × (Int → Int)) ⊕ (Int × (Int → Int) × (Int → Int)))) := if x2 < x1 then (cond (zi_ix (zi_w (2 * x2)) 220) (cond (zi_ix x2 12) (cond (zi_ix (zi_w ((zi_w (2 * x2)) + 1)) 220) (if 1 < ((zv_up g0 x2 (zi_and (g1 (zi_w (2 * x2))) 255)) x2) then (some (.inr (0, (zv_up g0 x2 (zi_and (g1 (zi_w (2 * x2))) 255)), (zv_up g2 x2 (zi_and (g1 (zi_w ((zi_w (2 * x2)) + 1))) 255))))) else (if (zi_w (x2 + 1)) < x1 then (if 4 < ((zv_up g2 x2 (zi_and (g1 (zi_w ((zi_w (2 * x2)) + 1))) 255)) x2) then (some (.inr (0, (zv_up g0 x2 (zi_and (g1 (zi_w (2 * x2))) 255)), (zv_up g2 x2 (zi_and (g1 (zi_w ((zi_w (2 * x2)) + 1))) 255))))) else (rec (zi_w (x2 + 1)) (zv_up g0 x2 (zi_and (g1 (zi_w (2 * x2))) 255)) (zv_up g2 x2 (zi_and (g1 (zi_w ((zi_w (2 * x2)) + 1))) 255)))) else (rec (zi_w (x2 + 1)) (zv_up g0 x2 (zi_and (g1 (zi_w (2 * x2))) 255)) (zv_up g2 x2 (zi_and (g1 (zi_w ((zi_w (2 * x2)) + 1))) 255))))) none) none) none) else (some (.inl (g0, g2)))
def zf_M_takesLog_l0 (x1 : Int) (g1 : (Int → Int)) : Nat → Int → (Int → Int) → (Int → Int) → Option ((((Int → Int) × (Int → Int)) ⊕ (Int × (Int → Int) × (Int → Int))))
  | 0, _, _, _ => none
  | n + 1, x2, g0, g2 => zf_M_takesLog_l0_b x1 g1 (zf_M_takesLog_l0 x1 g1 n) x2 g0 g2
def zf_M_takesLog (x1 : Int) (g0 : (Int → Int)) (g1 : (Int → Int)) (g2 : (Int → Int)) : Option (Int × (Int → Int) × (Int → Int)) := (zf_M_takesLog_l0 x1 g1 zi_fu 0 g0 g2).bind fun q8 => Sum.elim (fun e9 => (some (1, e9.1, e9.2))) (fun w10 => some w10) q8
theorem zd315_0 : decode zxm315.2.1 0 = .ok (.iconst 0, 1) := by decide +kernel
theorem zd315_1 : decode zxm315.2.1 1 = .ok (.istore_n 2, 1) := by decide +kernel
theorem zd315_2 : decode zxm315.2.1 2 = .ok (.iload_n 2, 1) := by decide +kernel
theorem zd315_3 : decode zxm315.2.1 3 = .ok (.iload_n 1, 1) := by decide +kernel
theorem zd315_4 : decode zxm315.2.1 4 = .ok (.if_icmp .ge 76, 3) := by decide +kernel
theorem zd315_7 : decode zxm315.2.1 7 = .ok (.aload_n 0, 1) := by decide +kernel
theorem zd315_8 : decode zxm315.2.1 8 = .ok (.getfield 125, 3) := by decide +kernel
theorem zd315_11 : decode zxm315.2.1 11 = .ok (.iload_n 2, 1) := by decide +kernel
theorem zd315_12 : decode zxm315.2.1 12 = .ok (.aload_n 0, 1) := by decide +kernel
theorem zd315_13 : decode zxm315.2.1 13 = .ok (.getfield 19, 3) := by decide +kernel
theorem zd315_16 : decode zxm315.2.1 16 = .ok (.iconst 2, 1) := by decide +kernel
theorem zd315_17 : decode zxm315.2.1 17 = .ok (.iload_n 2, 1) := by decide +kernel
theorem zd315_18 : decode zxm315.2.1 18 = .ok (.imul, 1) := by decide +kernel
theorem zd315_19 : decode zxm315.2.1 19 = .ok (.baload, 1) := by decide +kernel
theorem zd315_20 : decode zxm315.2.1 20 = .ok (.sipush 255, 3) := by decide +kernel
theorem zd315_23 : decode zxm315.2.1 23 = .ok (.iand, 1) := by decide +kernel
theorem zd315_24 : decode zxm315.2.1 24 = .ok (.iastore, 1) := by decide +kernel
theorem zd315_25 : decode zxm315.2.1 25 = .ok (.aload_n 0, 1) := by decide +kernel
theorem zd315_26 : decode zxm315.2.1 26 = .ok (.getfield 128, 3) := by decide +kernel
theorem zd315_29 : decode zxm315.2.1 29 = .ok (.iload_n 2, 1) := by decide +kernel
theorem zd315_30 : decode zxm315.2.1 30 = .ok (.aload_n 0, 1) := by decide +kernel
theorem zd315_31 : decode zxm315.2.1 31 = .ok (.getfield 19, 3) := by decide +kernel
theorem zd315_34 : decode zxm315.2.1 34 = .ok (.iconst 2, 1) := by decide +kernel
theorem zd315_35 : decode zxm315.2.1 35 = .ok (.iload_n 2, 1) := by decide +kernel
theorem zd315_36 : decode zxm315.2.1 36 = .ok (.imul, 1) := by decide +kernel
theorem zd315_37 : decode zxm315.2.1 37 = .ok (.iconst 1, 1) := by decide +kernel
theorem zd315_38 : decode zxm315.2.1 38 = .ok (.iadd, 1) := by decide +kernel
theorem zd315_39 : decode zxm315.2.1 39 = .ok (.baload, 1) := by decide +kernel
theorem zd315_40 : decode zxm315.2.1 40 = .ok (.sipush 255, 3) := by decide +kernel
theorem zd315_43 : decode zxm315.2.1 43 = .ok (.iand, 1) := by decide +kernel
theorem zd315_44 : decode zxm315.2.1 44 = .ok (.iastore, 1) := by decide +kernel
theorem zd315_45 : decode zxm315.2.1 45 = .ok (.aload_n 0, 1) := by decide +kernel
theorem zd315_46 : decode zxm315.2.1 46 = .ok (.getfield 125, 3) := by decide +kernel
theorem zd315_49 : decode zxm315.2.1 49 = .ok (.iload_n 2, 1) := by decide +kernel
theorem zd315_50 : decode zxm315.2.1 50 = .ok (.iaload, 1) := by decide +kernel
theorem zd315_51 : decode zxm315.2.1 51 = .ok (.iconst 1, 1) := by decide +kernel
theorem zd315_52 : decode zxm315.2.1 52 = .ok (.if_icmp .gt 20, 3) := by decide +kernel
theorem zd315_55 : decode zxm315.2.1 55 = .ok (.iload_n 2, 1) := by decide +kernel
theorem zd315_56 : decode zxm315.2.1 56 = .ok (.iconst 1, 1) := by decide +kernel
theorem zd315_57 : decode zxm315.2.1 57 = .ok (.iadd, 1) := by decide +kernel
theorem zd315_58 : decode zxm315.2.1 58 = .ok (.iload_n 1, 1) := by decide +kernel
theorem zd315_59 : decode zxm315.2.1 59 = .ok (.if_icmp .ge 15, 3) := by decide +kernel
theorem zd315_62 : decode zxm315.2.1 62 = .ok (.aload_n 0, 1) := by decide +kernel
theorem zd315_63 : decode zxm315.2.1 63 = .ok (.getfield 128, 3) := by decide +kernel
theorem zd315_66 : decode zxm315.2.1 66 = .ok (.iload_n 2, 1) := by decide +kernel
theorem zd315_67 : decode zxm315.2.1 67 = .ok (.iaload, 1) := by decide +kernel
theorem zd315_68 : decode zxm315.2.1 68 = .ok (.iconst 4, 1) := by decide +kernel
theorem zd315_69 : decode zxm315.2.1 69 = .ok (.if_icmp .le 5, 3) := by decide +kernel
theorem zd315_72 : decode zxm315.2.1 72 = .ok (.iconst 0, 1) := by decide +kernel
theorem zd315_73 : decode zxm315.2.1 73 = .ok (.ireturn, 1) := by decide +kernel
theorem zd315_74 : decode zxm315.2.1 74 = .ok (.iinc 2 1, 3) := by decide +kernel
theorem zd315_77 : decode zxm315.2.1 77 = .ok (.goto (-75), 3) := by decide +kernel
theorem zd315_80 : decode zxm315.2.1 80 = .ok (.iconst 1, 1) := by decide +kernel
theorem zd315_81 : decode zxm315.2.1 81 = .ok (.ireturn, 1) := by decide +kernel
theorem zt_M_takesLog {x1 : Int} {g0 : (Int → Int)} {g1 : (Int → Int)} {g2 : (Int → Int)} {o : Int × (Int → Int) × (Int → Int)} (h : zf_M_takesLog x1 g0 g1 g2 = some o) : zv_Fn z_TB z_cl z_KX zy_M_takesLog zxm315 (0, 0) [.inr 0, .inl x1] [] [g0, g1, g2] (some o.1) [] [o.2.1, g1, o.2.2] := zv_meth (K := (z_KF13, z_KC13, z_KL13, z_KT13, [], [], [], none)) (FT := z_FT) (MT := z_MT) (n := 2) zxp315 (z_ks13 _ (fun _ h => List.mem_cons_of_mem _ h) _ _ _ _ (fun j r h _ => by cases h)) (fun _ _ => zs_KX_p) zyw_M_takesLog (fun va F G h => by obtain ⟨rfl, _⟩ := h; rfl) (fun va F G h => by obtain ⟨rfl, _⟩ := h; rfl) rfl fun good va F G hB hret hvret hP => by
  obtain ⟨rfl, rfl, rfl⟩ := hP
  have l0 : ∀ (n : Nat) (x1 : Int) (x2 : Int) (g0 : (Int → Int)) (g2 : (Int → Int)) (q : (((Int → Int) × (Int → Int)) ⊕ (Int × (Int → Int) × (Int → Int)))), zf_M_takesLog_l0 x1 g1 n x2 g0 g2 = some q → (Sum.elim (fun e : (Int → Int) × (Int → Int) => good 80 [.inr 1000, .inr 1000, .inr 1000] [] [] [e.1, g1, e.2]) (fun w : Int × (Int → Int) × (Int → Int) => w = o) q) → good 2 [.inr 0, .inl x1, .inl x2] [] [] [g0, g1, g2] := by
    intro n
    induction n with
    | zero => intro x1 x2 g0 g2 q h; exact absurd (show none = some q from h) (fun h => by cases h)
    | succ n ih =>
      intro x1 x2 g0 g2 q h hK
      replace h : zf_M_takesLog_l0_b x1 g1 (zf_M_takesLog_l0 x1 g1 n) x2 g0 g2 = some q := h
      unfold zf_M_takesLog_l0_b at h
      refine zv_ild hB zd315_2 rfl rfl ?_
      refine zv_ild hB zd315_3 rfl rfl ?_
      refine zv_cge hB zd315_4 rfl (fun hc1 => ?_) (fun hc1 => ?_)
      · rw [if_neg (Int.not_lt.mpr hc1)] at h
        have hq := Option.some.inj h
        subst hq
        refine zv_wk hB (L' := [.inr 1000, .inr 1000, .inr 1000]) (F' := []) ⟨fun (h : zv_is (.inr 1000)) => (Nat.lt_irrefl 1000 h).elim, fun (h : zv_is (.inr 1000)) => (Nat.lt_irrefl 1000 h).elim, fun (h : zv_is (.inr 1000)) => (Nat.lt_irrefl 1000 h).elim, trivial⟩ trivial ?_
        exact hK
      · rw [if_pos hc1] at h
        refine zv_ald hB zd315_7 rfl rfl rfl ?_
        refine zv_getr hB zd315_8 rfl ?_
        refine zv_ild hB zd315_11 rfl rfl ?_
        refine zv_ald hB zd315_12 rfl rfl rfl ?_
        refine zv_getr hB zd315_13 rfl ?_
        refine zv_con hB zd315_16 rfl ?_
        refine zv_ild hB zd315_17 rfl rfl ?_
        refine zv_mulw hB zd315_18 ?_
        obtain ⟨c2, h⟩ := zi_if h
        refine zv_bald hB zd315_19 rfl rfl (zi_ix_ok c2).1 (zi_ix_ok c2).2 (fun _ _ => ?_)
        refine zv_con hB zd315_20 rfl ?_
        refine zv_andw hB zd315_23 ?_
        obtain ⟨c3, h⟩ := zi_if h
        refine zv_iast hB zd315_24 rfl rfl (zi_ix_ok c3).1 (zi_ix_ok c3).2 ?_
        refine zv_ald hB zd315_25 rfl rfl rfl ?_
        refine zv_getr hB zd315_26 rfl ?_
        refine zv_ild hB zd315_29 rfl rfl ?_
        refine zv_ald hB zd315_30 rfl rfl rfl ?_
        refine zv_getr hB zd315_31 rfl ?_
        refine zv_con hB zd315_34 rfl ?_
        refine zv_ild hB zd315_35 rfl rfl ?_
        refine zv_mulw hB zd315_36 ?_
        refine zv_con hB zd315_37 rfl ?_
        refine zv_addw hB zd315_38 ?_
        obtain ⟨c4, h⟩ := zi_if h
        refine zv_bald hB zd315_39 rfl rfl (zi_ix_ok c4).1 (zi_ix_ok c4).2 (fun _ _ => ?_)
        refine zv_con hB zd315_40 rfl ?_
        refine zv_andw hB zd315_43 ?_
        refine zv_iast hB zd315_44 rfl rfl (zi_ix_ok c3).1 (zi_ix_ok c3).2 ?_
        refine zv_ald hB zd315_45 rfl rfl rfl ?_
        refine zv_getr hB zd315_46 rfl ?_
        refine zv_ild hB zd315_49 rfl rfl ?_
        refine zv_iald hB zd315_50 rfl rfl (zi_ix_ok c3).1 (zi_ix_ok c3).2 (fun _ _ => ?_)
        refine zv_con hB zd315_51 rfl ?_
        refine zv_cgt hB zd315_52 rfl (fun hc5 => ?_) (fun hc5 => ?_)
        · rw [if_pos hc5] at h
          refine zv_con hB zd315_72 rfl ?_
          have hw : (0, (zv_up g0 x2 (zi_and (g1 (zi_w (2 * x2))) 255)), (zv_up g2 x2 (zi_and (g1 (zi_w ((zi_w (2 * x2)) + 1))) 255))) = o := zi_rk (Option.some.inj h) hK
          subst hw
          exact hret _ _ _ _ _ zd315_73 (by constructor <;> decide) ⟨rfl, rfl, rfl⟩
        · rw [if_neg (Int.not_lt.mpr hc5)] at h
          refine zv_ild hB zd315_55 rfl rfl ?_
          refine zv_con hB zd315_56 rfl ?_
          refine zv_addw hB zd315_57 ?_
          refine zv_ild hB zd315_58 rfl rfl ?_
          refine zv_cge hB zd315_59 rfl (fun hc6 => ?_) (fun hc6 => ?_)
          · rw [if_neg (Int.not_lt.mpr hc6)] at h
            refine zv_iincw hB zd315_74 rfl rfl ?_
            refine zv_goto hB zd315_77 rfl ?_
            exact ih _ _ _ _ q h hK
          · rw [if_pos hc6] at h
            refine zv_ald hB zd315_62 rfl rfl rfl ?_
            refine zv_getr hB zd315_63 rfl ?_
            refine zv_ild hB zd315_66 rfl rfl ?_
            refine zv_iald hB zd315_67 rfl rfl (zi_ix_ok c3).1 (zi_ix_ok c3).2 (fun _ _ => ?_)
            refine zv_con hB zd315_68 rfl ?_
            refine zv_cle hB zd315_69 rfl (fun hc7 => ?_) (fun hc7 => ?_)
            · rw [if_neg (Int.not_lt.mpr hc7)] at h
              refine zv_iincw hB zd315_74 rfl rfl ?_
              refine zv_goto hB zd315_77 rfl ?_
              exact ih _ _ _ _ q h hK
            · rw [if_pos hc7] at h
              refine zv_con hB zd315_72 rfl ?_
              have hw : (0, (zv_up g0 x2 (zi_and (g1 (zi_w (2 * x2))) 255)), (zv_up g2 x2 (zi_and (g1 (zi_w ((zi_w (2 * x2)) + 1))) 255))) = o := zi_rk (Option.some.inj h) hK
              subst hw
              exact hret _ _ _ _ _ zd315_73 (by constructor <;> decide) ⟨rfl, rfl, rfl⟩
  unfold zf_M_takesLog at h
  refine zv_con hB zd315_0 rfl ?_
  refine zv_ist hB zd315_1 rfl rfl rfl ?_
  obtain ⟨q8, hq8, h⟩ := zi_bind h
  refine l0 _ _ _ _ _ q8 hq8 ?_
  rcases q8 with e9 | w10
  · replace h := zi_sl h
    show good 80 [.inr 1000, .inr 1000, .inr 1000] [] [] [e9.1, g1, e9.2]
    refine zv_con hB zd315_80 rfl ?_
    have hw := Option.some.inj h
    subst hw
    exact hret _ _ _ _ _ zd315_81 (by constructor <;> decide) ⟨rfl, rfl, rfl⟩
  · exact Option.some.inj h
