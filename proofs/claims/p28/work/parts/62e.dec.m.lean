/-! 62e.dec, 62f.dec, 62g.dec, 62h.dec, 62i.dec -/
section
/-! Methods as functions, and that they do what these do. -/
/-! M_isTwice (II)Z -/
-- names: 0 StarTalesModel('arg', 0), 1 (0, 12)(0, 12, 36), 2 (0, 12)(0, 12, 37)
-- fields: f0 = 0.newLines_; arrays: g0 = 1, g1 = 2; out: [('ret', None)]
abbrev zy_M_isTwice : zNL := (3, [(0, 12)], [(0, 12, 32, 0)], [(0, 12, 36, 1), (0, 12, 37, 2)], [(1, 0, 12, 0), (2, 0, 12, 1)])
theorem zyw_M_isTwice : zv_wf zy_M_isTwice = true := by decide +kernel
theorem zye_M_isTwice : zv_ek2 zy_M_isTwice = true := by decide +kernel
def zf_M_isTwice_l0_b (x1 : Int) (x2 : Int) (f0 : Int) (g0 : (Int → Int)) (g1 : (Int → Int)) (rec : Int → Option (((Unit) ⊕ (Int)))) (x3 : Int) : Option (((Unit) ⊕ (Int))) := if x3 < f0 then (cond (zi_ix x3 12) (if (g0 x3) = x1 then (if (g1 x3) = x2 then (some (.inr 1)) else (if (g0 x3) = x2 then (if (g1 x3) = x1 then (some (.inr 1)) else (rec (zi_w (x3 + 1)))) else (rec (zi_w (x3 + 1))))) else (if (g0 x3) = x2 then (if (g1 x3) = x1 then (some (.inr 1)) else (rec (zi_w (x3 + 1)))) else (rec (zi_w (x3 + 1))))) none) else (some (.inl ()))
def zf_M_isTwice_l0 (x1 : Int) (x2 : Int) (f0 : Int) (g0 : (Int → Int)) (g1 : (Int → Int)) : Nat → Int → Option (((Unit) ⊕ (Int)))
  | 0, _ => none
  | n + 1, x3 => zf_M_isTwice_l0_b x1 x2 f0 g0 g1 (zf_M_isTwice_l0 x1 x2 f0 g0 g1 n) x3
def zf_M_isTwice (x1 : Int) (x2 : Int) (f0 : Int) (g0 : (Int → Int)) (g1 : (Int → Int)) : Option (Int) := (zf_M_isTwice_l0 x1 x2 f0 g0 g1 zi_fu 0).bind fun q9 => Sum.elim (fun e10 => (some 0)) (fun w11 => some w11) q9
theorem zd266_0 : decode zxm266.2.1 0 = .ok (.iconst 0, 1) := by decide +kernel
theorem zd266_1 : decode zxm266.2.1 1 = .ok (.istore_n 3, 1) := by decide +kernel
theorem zd266_2 : decode zxm266.2.1 2 = .ok (.iload_n 3, 1) := by decide +kernel
theorem zd266_3 : decode zxm266.2.1 3 = .ok (.aload_n 0, 1) := by decide +kernel
theorem zd266_4 : decode zxm266.2.1 4 = .ok (.getfield 339, 3) := by decide +kernel
theorem zd266_7 : decode zxm266.2.1 7 = .ok (.if_icmp .ge 51, 3) := by decide +kernel
theorem zd266_10 : decode zxm266.2.1 10 = .ok (.aload_n 0, 1) := by decide +kernel
theorem zd266_11 : decode zxm266.2.1 11 = .ok (.getfield 71, 3) := by decide +kernel
theorem zd266_14 : decode zxm266.2.1 14 = .ok (.iload_n 3, 1) := by decide +kernel
theorem zd266_15 : decode zxm266.2.1 15 = .ok (.iaload, 1) := by decide +kernel
theorem zd266_16 : decode zxm266.2.1 16 = .ok (.iload_n 1, 1) := by decide +kernel
theorem zd266_17 : decode zxm266.2.1 17 = .ok (.if_icmp .ne 13, 3) := by decide +kernel
theorem zd266_20 : decode zxm266.2.1 20 = .ok (.aload_n 0, 1) := by decide +kernel
theorem zd266_21 : decode zxm266.2.1 21 = .ok (.getfield 74, 3) := by decide +kernel
theorem zd266_24 : decode zxm266.2.1 24 = .ok (.iload_n 3, 1) := by decide +kernel
theorem zd266_25 : decode zxm266.2.1 25 = .ok (.iaload, 1) := by decide +kernel
theorem zd266_26 : decode zxm266.2.1 26 = .ok (.iload_n 2, 1) := by decide +kernel
theorem zd266_27 : decode zxm266.2.1 27 = .ok (.if_icmp .eq 23, 3) := by decide +kernel
theorem zd266_30 : decode zxm266.2.1 30 = .ok (.aload_n 0, 1) := by decide +kernel
theorem zd266_31 : decode zxm266.2.1 31 = .ok (.getfield 71, 3) := by decide +kernel
theorem zd266_34 : decode zxm266.2.1 34 = .ok (.iload_n 3, 1) := by decide +kernel
theorem zd266_35 : decode zxm266.2.1 35 = .ok (.iaload, 1) := by decide +kernel
theorem zd266_36 : decode zxm266.2.1 36 = .ok (.iload_n 2, 1) := by decide +kernel
theorem zd266_37 : decode zxm266.2.1 37 = .ok (.if_icmp .ne 15, 3) := by decide +kernel
theorem zd266_40 : decode zxm266.2.1 40 = .ok (.aload_n 0, 1) := by decide +kernel
theorem zd266_41 : decode zxm266.2.1 41 = .ok (.getfield 74, 3) := by decide +kernel
theorem zd266_44 : decode zxm266.2.1 44 = .ok (.iload_n 3, 1) := by decide +kernel
theorem zd266_45 : decode zxm266.2.1 45 = .ok (.iaload, 1) := by decide +kernel
theorem zd266_46 : decode zxm266.2.1 46 = .ok (.iload_n 1, 1) := by decide +kernel
theorem zd266_47 : decode zxm266.2.1 47 = .ok (.if_icmp .ne 5, 3) := by decide +kernel
theorem zd266_50 : decode zxm266.2.1 50 = .ok (.iconst 1, 1) := by decide +kernel
theorem zd266_51 : decode zxm266.2.1 51 = .ok (.ireturn, 1) := by decide +kernel
theorem zd266_52 : decode zxm266.2.1 52 = .ok (.iinc 3 1, 3) := by decide +kernel
theorem zd266_55 : decode zxm266.2.1 55 = .ok (.goto (-53), 3) := by decide +kernel
theorem zd266_58 : decode zxm266.2.1 58 = .ok (.iconst 0, 1) := by decide +kernel
theorem zd266_59 : decode zxm266.2.1 59 = .ok (.ireturn, 1) := by decide +kernel
theorem zt_M_isTwice {x1 : Int} {x2 : Int} {f0 : Int} {g0 : (Int → Int)} {g1 : (Int → Int)} {o : Int} (h : zf_M_isTwice x1 x2 f0 g0 g1 = some o) : zv_Fn z_TB z_cl z_KX zy_M_isTwice zxm266 (0, 0) [.inr 0, .inl x1, .inl x2] [.inl f0] [g0, g1] (some o) [.inl f0] [g0, g1] := zv_meth (K := (z_KF13, z_KC13, z_KL13, z_KT13, [], [], [], none)) (FT := z_FT) (MT := z_MT) (n := 3) zxp266 (z_ks13 _ (fun _ h => List.mem_cons_of_mem _ h) _ _ _ _ (fun j r h _ => by cases h)) (fun _ _ => zs_KX_p) zyw_M_isTwice (fun va F G h => by obtain ⟨rfl, _⟩ := h; rfl) (fun va F G h => by obtain ⟨rfl, _⟩ := h; rfl) rfl fun good va F G hB hret hvret hP => by
  obtain ⟨rfl, rfl, rfl⟩ := hP
  have l0 : ∀ (n : Nat) (x1 : Int) (x2 : Int) (x3 : Int) (q : ((Unit) ⊕ (Int))), zf_M_isTwice_l0 x1 x2 f0 g0 g1 n x3 = some q → (Sum.elim (fun e : Unit => good 58 [.inr 1000, .inr 1000, .inr 1000, .inr 1000] [] [.inl f0] [g0, g1]) (fun w : Int => w = o) q) → good 2 [.inr 0, .inl x1, .inl x2, .inl x3] [] [.inl f0] [g0, g1] := by
    intro n
    induction n with
    | zero => intro x1 x2 x3 q h; exact absurd (show none = some q from h) (fun h => by cases h)
    | succ n ih =>
      intro x1 x2 x3 q h hK
      replace h : zf_M_isTwice_l0_b x1 x2 f0 g0 g1 (zf_M_isTwice_l0 x1 x2 f0 g0 g1 n) x3 = some q := h
      unfold zf_M_isTwice_l0_b at h
      refine zv_ild hB zd266_2 rfl rfl ?_
      refine zv_ald hB zd266_3 rfl rfl rfl ?_
      refine zv_getf hB zd266_4 rfl rfl (fun _ _ => ?_)
      refine zv_cge hB zd266_7 rfl (fun hc1 => ?_) (fun hc1 => ?_)
      · rw [if_neg (Int.not_lt.mpr hc1)] at h
        have hq := Option.some.inj h
        subst hq
        refine zv_wk hB (L' := [.inr 1000, .inr 1000, .inr 1000, .inr 1000]) (F' := [.inl f0]) ⟨fun (h : zv_is (.inr 1000)) => (Nat.lt_irrefl 1000 h).elim, fun (h : zv_is (.inr 1000)) => (Nat.lt_irrefl 1000 h).elim, fun (h : zv_is (.inr 1000)) => (Nat.lt_irrefl 1000 h).elim, fun (h : zv_is (.inr 1000)) => (Nat.lt_irrefl 1000 h).elim, trivial⟩ ⟨fun _ => rfl, trivial⟩ ?_
        exact hK
      · rw [if_pos hc1] at h
        refine zv_ald hB zd266_10 rfl rfl rfl ?_
        refine zv_getr hB zd266_11 rfl ?_
        refine zv_ild hB zd266_14 rfl rfl ?_
        obtain ⟨c2, h⟩ := zi_if h
        refine zv_iald hB zd266_15 rfl rfl (zi_ix_ok c2).1 (zi_ix_ok c2).2 (fun _ _ => ?_)
        refine zv_ild hB zd266_16 rfl rfl ?_
        refine zv_cne hB zd266_17 rfl (fun hc3 => ?_) (fun hc3 => ?_)
        · rw [if_neg hc3] at h
          refine zv_ald hB zd266_30 rfl rfl rfl ?_
          refine zv_getr hB zd266_31 rfl ?_
          refine zv_ild hB zd266_34 rfl rfl ?_
          refine zv_iald hB zd266_35 rfl rfl (zi_ix_ok c2).1 (zi_ix_ok c2).2 (fun _ _ => ?_)
          refine zv_ild hB zd266_36 rfl rfl ?_
          refine zv_cne hB zd266_37 rfl (fun hc4 => ?_) (fun hc4 => ?_)
          · rw [if_neg hc4] at h
            refine zv_iincw hB zd266_52 rfl rfl ?_
            refine zv_goto hB zd266_55 rfl ?_
            exact ih _ _ _ q h hK
          · rw [if_pos hc4] at h
            refine zv_ald hB zd266_40 rfl rfl rfl ?_
            refine zv_getr hB zd266_41 rfl ?_
            refine zv_ild hB zd266_44 rfl rfl ?_
            refine zv_iald hB zd266_45 rfl rfl (zi_ix_ok c2).1 (zi_ix_ok c2).2 (fun _ _ => ?_)
            refine zv_ild hB zd266_46 rfl rfl ?_
            refine zv_cne hB zd266_47 rfl (fun hc5 => ?_) (fun hc5 => ?_)
            · rw [if_neg hc5] at h
              refine zv_iincw hB zd266_52 rfl rfl ?_
              refine zv_goto hB zd266_55 rfl ?_
              exact ih _ _ _ q h hK
            · rw [if_pos hc5] at h
              refine zv_con hB zd266_50 rfl ?_
              have hw : 1 = o := zi_rk (Option.some.inj h) hK
              subst hw
              exact hret _ _ _ _ _ zd266_51 (by constructor <;> decide) ⟨rfl, rfl, rfl⟩
        · rw [if_pos hc3] at h
          refine zv_ald hB zd266_20 rfl rfl rfl ?_
          refine zv_getr hB zd266_21 rfl ?_
          refine zv_ild hB zd266_24 rfl rfl ?_
          refine zv_iald hB zd266_25 rfl rfl (zi_ix_ok c2).1 (zi_ix_ok c2).2 (fun _ _ => ?_)
          refine zv_ild hB zd266_26 rfl rfl ?_
          refine zv_ceq hB zd266_27 rfl (fun hc6 => ?_) (fun hc6 => ?_)
          · rw [if_pos hc6] at h
            refine zv_con hB zd266_50 rfl ?_
            have hw : 1 = o := zi_rk (Option.some.inj h) hK
            subst hw
            exact hret _ _ _ _ _ zd266_51 (by constructor <;> decide) ⟨rfl, rfl, rfl⟩
          · rw [if_neg hc6] at h
            refine zv_ald hB zd266_30 rfl rfl rfl ?_
            refine zv_getr hB zd266_31 rfl ?_
            refine zv_ild hB zd266_34 rfl rfl ?_
            refine zv_iald hB zd266_35 rfl rfl (zi_ix_ok c2).1 (zi_ix_ok c2).2 (fun _ _ => ?_)
            refine zv_ild hB zd266_36 rfl rfl ?_
            refine zv_cne hB zd266_37 rfl (fun hc7 => ?_) (fun hc7 => ?_)
            · rw [if_neg hc7] at h
              refine zv_iincw hB zd266_52 rfl rfl ?_
              refine zv_goto hB zd266_55 rfl ?_
              exact ih _ _ _ q h hK
            · rw [if_pos hc7] at h
              refine zv_ald hB zd266_40 rfl rfl rfl ?_
              refine zv_getr hB zd266_41 rfl ?_
              refine zv_ild hB zd266_44 rfl rfl ?_
              refine zv_iald hB zd266_45 rfl rfl (zi_ix_ok c2).1 (zi_ix_ok c2).2 (fun _ _ => ?_)
              refine zv_ild hB zd266_46 rfl rfl ?_
              refine zv_cne hB zd266_47 rfl (fun hc8 => ?_) (fun hc8 => ?_)
              · rw [if_neg hc8] at h
                refine zv_iincw hB zd266_52 rfl rfl ?_
                refine zv_goto hB zd266_55 rfl ?_
                exact ih _ _ _ q h hK
              · rw [if_pos hc8] at h
                refine zv_con hB zd266_50 rfl ?_
                have hw : 1 = o := zi_rk (Option.some.inj h) hK
                subst hw
                exact hret _ _ _ _ _ zd266_51 (by constructor <;> decide) ⟨rfl, rfl, rfl⟩
  unfold zf_M_isTwice at h
  refine zv_con hB zd266_0 rfl ?_
  refine zv_ist hB zd266_1 rfl rfl rfl ?_
  obtain ⟨q9, hq9, h⟩ := zi_bind h
  refine l0 _ _ _ _ q9 hq9 ?_
  rcases q9 with e10 | w11
  · replace h := zi_sl h
    show good 58 [.inr 1000, .inr 1000, .inr 1000, .inr 1000] [] [.inl f0] [g0, g1]
    refine zv_con hB zd266_58 rfl ?_
    have hw := Option.some.inj h
    subst hw
    exact hret _ _ _ _ _ zd266_59 (by constructor <;> decide) ⟨rfl, rfl, rfl⟩
  · exact Option.some.inj h
/-! M_readsTaleLine ()Z -/
-- names: 0 StarTalesModel('arg', 0), 1 (1, 220)(0, 12, 3), 2 (0, 12)(0, 12, 36), 3 (0, 12)(0, 12, 37)
-- fields: f0 = 0.place0_, f1 = 0.length0_, f2 = 0.newLines_, f3 = 0.fault_; arrays: g0 = 1, g1 = 2, g2 = 3; out: [('ret', None), ('f', 0), ('f', 2), ('f', 3), ('g', 1), ('g', 2)]
abbrev zy_M_readsTaleLine : zNL := (4, [(0, 12)], [(0, 12, 5, 0), (0, 12, 6, 1), (0, 12, 32, 2), (0, 12, 7, 3)], [(0, 12, 3, 1), (0, 12, 36, 2), (0, 12, 37, 3)], [(1, 1, 220, 0), (2, 0, 12, 1), (3, 0, 12, 2)])
theorem zyw_M_readsTaleLine : zv_wf zy_M_readsTaleLine = true := by decide +kernel
theorem zye_M_readsTaleLine : zv_ek2 zy_M_readsTaleLine = true := by decide +kernel
def zf_M_readsTaleLine (f0 : Int) (f1 : Int) (f2 : Int) (f3 : Int) (g0 : (Int → Int)) (g1 : (Int → Int)) (g2 : (Int → Int)) : Option (Int × Int × Int × Int × (Int → Int) × (Int → Int)) := (zf_M_isName f0 f1 g0).bind fun r1 => (if r1 = 0 then ((zf_M_wrongAt 1 f0 f3).bind fun r20 => (cond (zi_bo r20.1) (some (r20.1, f0, f2, r20.2, g1, g2)) none)) else (if f2 = 12 then ((zf_M_wrongAt 4 f0 f3).bind fun r18 => (cond (zi_bo r18.1) (some (r18.1, f0, f2, r18.2, g1, g2)) none)) else ((zf_M_here f0 f1 g0).bind fun r4 => ((zf_M_isName (zi_w (f0 + 1)) f1 g0).bind fun r5 => (if r5 = 0 then ((zf_M_wrongAt 1 (zi_w (f0 + 1)) f3).bind fun r16 => (cond (zi_bo r16.1) (some (r16.1, (zi_w (f0 + 1)), f2, r16.2, g1, g2)) none)) else ((zf_M_here (zi_w (f0 + 1)) f1 g0).bind fun r7 => (if (zi_w (r4 - 65)) = (zi_w (r7 - 65)) then ((zf_M_wrongAt 3 (zi_w (f0 + 1)) f3).bind fun r14 => (cond (zi_bo r14.1) (some (r14.1, (zi_w (f0 + 1)), f2, r14.2, g1, g2)) none)) else ((zf_M_isTwice (zi_w (r4 - 65)) (zi_w (r7 - 65)) f2 g1 g2).bind fun r9 => (if r9 = 0 then (cond (zi_ix f2 12) (some (1, (zi_w ((zi_w (f0 + 1)) + 1)), (zi_w (f2 + 1)), f3, (zv_up g1 f2 (zi_w (r4 - 65))), (zv_up g2 f2 (zi_w (r7 - 65))))) none) else ((zf_M_wrongAt 6 f0 f3).bind fun r12 => (cond (zi_bo r12.1) (some (r12.1, (zi_w (f0 + 1)), f2, r12.2, g1, g2)) none)))))))))))
theorem zd264_0 : decode zxm264.2.1 0 = .ok (.aload_n 0, 1) := by decide +kernel
theorem zd264_1 : decode zxm264.2.1 1 = .ok (.getfield 176, 3) := by decide +kernel
theorem zd264_4 : decode zxm264.2.1 4 = .ok (.istore_n 1, 1) := by decide +kernel
theorem zd264_5 : decode zxm264.2.1 5 = .ok (.aload_n 0, 1) := by decide +kernel
theorem zd264_6 : decode zxm264.2.1 6 = .ok (.invokevirtual 342, 3) := by decide +kernel
theorem zd264_9 : decode zxm264.2.1 9 = .ok (.ifCond .ne 13, 3) := by decide +kernel
theorem zd264_12 : decode zxm264.2.1 12 = .ok (.aload_n 0, 1) := by decide +kernel
theorem zd264_13 : decode zxm264.2.1 13 = .ok (.iconst 1, 1) := by decide +kernel
theorem zd264_14 : decode zxm264.2.1 14 = .ok (.aload_n 0, 1) := by decide +kernel
theorem zd264_15 : decode zxm264.2.1 15 = .ok (.getfield 176, 3) := by decide +kernel
theorem zd264_18 : decode zxm264.2.1 18 = .ok (.invokevirtual 189, 3) := by decide +kernel
theorem zd264_21 : decode zxm264.2.1 21 = .ok (.ireturn, 1) := by decide +kernel
theorem zd264_22 : decode zxm264.2.1 22 = .ok (.aload_n 0, 1) := by decide +kernel
theorem zd264_23 : decode zxm264.2.1 23 = .ok (.getfield 339, 3) := by decide +kernel
theorem zd264_26 : decode zxm264.2.1 26 = .ok (.bipush 12, 2) := by decide +kernel
theorem zd264_28 : decode zxm264.2.1 28 = .ok (.if_icmp .ne 13, 3) := by decide +kernel
theorem zd264_31 : decode zxm264.2.1 31 = .ok (.aload_n 0, 1) := by decide +kernel
theorem zd264_32 : decode zxm264.2.1 32 = .ok (.iconst 4, 1) := by decide +kernel
theorem zd264_33 : decode zxm264.2.1 33 = .ok (.aload_n 0, 1) := by decide +kernel
theorem zd264_34 : decode zxm264.2.1 34 = .ok (.getfield 176, 3) := by decide +kernel
theorem zd264_37 : decode zxm264.2.1 37 = .ok (.invokevirtual 189, 3) := by decide +kernel
theorem zd264_40 : decode zxm264.2.1 40 = .ok (.ireturn, 1) := by decide +kernel
theorem zd264_41 : decode zxm264.2.1 41 = .ok (.aload_n 0, 1) := by decide +kernel
theorem zd264_42 : decode zxm264.2.1 42 = .ok (.invokevirtual 182, 3) := by decide +kernel
theorem zd264_45 : decode zxm264.2.1 45 = .ok (.bipush 65, 2) := by decide +kernel
theorem zd264_47 : decode zxm264.2.1 47 = .ok (.isub, 1) := by decide +kernel
theorem zd264_48 : decode zxm264.2.1 48 = .ok (.istore_n 2, 1) := by decide +kernel
theorem zd264_49 : decode zxm264.2.1 49 = .ok (.aload_n 0, 1) := by decide +kernel
theorem zd264_50 : decode zxm264.2.1 50 = .ok (.aload_n 0, 1) := by decide +kernel
theorem zd264_51 : decode zxm264.2.1 51 = .ok (.getfield 176, 3) := by decide +kernel
theorem zd264_54 : decode zxm264.2.1 54 = .ok (.iconst 1, 1) := by decide +kernel
theorem zd264_55 : decode zxm264.2.1 55 = .ok (.iadd, 1) := by decide +kernel
theorem zd264_56 : decode zxm264.2.1 56 = .ok (.putfield 176, 3) := by decide +kernel
theorem zd264_59 : decode zxm264.2.1 59 = .ok (.aload_n 0, 1) := by decide +kernel
theorem zd264_60 : decode zxm264.2.1 60 = .ok (.invokevirtual 342, 3) := by decide +kernel
theorem zd264_63 : decode zxm264.2.1 63 = .ok (.ifCond .ne 13, 3) := by decide +kernel
theorem zd264_66 : decode zxm264.2.1 66 = .ok (.aload_n 0, 1) := by decide +kernel
theorem zd264_67 : decode zxm264.2.1 67 = .ok (.iconst 1, 1) := by decide +kernel
theorem zd264_68 : decode zxm264.2.1 68 = .ok (.aload_n 0, 1) := by decide +kernel
theorem zd264_69 : decode zxm264.2.1 69 = .ok (.getfield 176, 3) := by decide +kernel
theorem zd264_72 : decode zxm264.2.1 72 = .ok (.invokevirtual 189, 3) := by decide +kernel
theorem zd264_75 : decode zxm264.2.1 75 = .ok (.ireturn, 1) := by decide +kernel
theorem zd264_76 : decode zxm264.2.1 76 = .ok (.aload_n 0, 1) := by decide +kernel
theorem zd264_77 : decode zxm264.2.1 77 = .ok (.invokevirtual 182, 3) := by decide +kernel
theorem zd264_80 : decode zxm264.2.1 80 = .ok (.bipush 65, 2) := by decide +kernel
theorem zd264_82 : decode zxm264.2.1 82 = .ok (.isub, 1) := by decide +kernel
theorem zd264_83 : decode zxm264.2.1 83 = .ok (.istore_n 3, 1) := by decide +kernel
theorem zd264_84 : decode zxm264.2.1 84 = .ok (.iload_n 2, 1) := by decide +kernel
theorem zd264_85 : decode zxm264.2.1 85 = .ok (.iload_n 3, 1) := by decide +kernel
theorem zd264_86 : decode zxm264.2.1 86 = .ok (.if_icmp .ne 13, 3) := by decide +kernel
theorem zd264_89 : decode zxm264.2.1 89 = .ok (.aload_n 0, 1) := by decide +kernel
theorem zd264_90 : decode zxm264.2.1 90 = .ok (.iconst 3, 1) := by decide +kernel
theorem zd264_91 : decode zxm264.2.1 91 = .ok (.aload_n 0, 1) := by decide +kernel
theorem zd264_92 : decode zxm264.2.1 92 = .ok (.getfield 176, 3) := by decide +kernel
theorem zd264_95 : decode zxm264.2.1 95 = .ok (.invokevirtual 189, 3) := by decide +kernel
theorem zd264_98 : decode zxm264.2.1 98 = .ok (.ireturn, 1) := by decide +kernel
theorem zd264_99 : decode zxm264.2.1 99 = .ok (.aload_n 0, 1) := by decide +kernel
theorem zd264_100 : decode zxm264.2.1 100 = .ok (.iload_n 2, 1) := by decide +kernel
theorem zd264_101 : decode zxm264.2.1 101 = .ok (.iload_n 3, 1) := by decide +kernel
theorem zd264_102 : decode zxm264.2.1 102 = .ok (.invokevirtual 345, 3) := by decide +kernel
theorem zd264_105 : decode zxm264.2.1 105 = .ok (.ifCond .eq 11, 3) := by decide +kernel
theorem zd264_108 : decode zxm264.2.1 108 = .ok (.aload_n 0, 1) := by decide +kernel
theorem zd264_109 : decode zxm264.2.1 109 = .ok (.bipush 6, 2) := by decide +kernel
theorem zd264_111 : decode zxm264.2.1 111 = .ok (.iload_n 1, 1) := by decide +kernel
theorem zd264_112 : decode zxm264.2.1 112 = .ok (.invokevirtual 189, 3) := by decide +kernel
theorem zd264_115 : decode zxm264.2.1 115 = .ok (.ireturn, 1) := by decide +kernel
theorem zd264_116 : decode zxm264.2.1 116 = .ok (.aload_n 0, 1) := by decide +kernel
theorem zd264_117 : decode zxm264.2.1 117 = .ok (.aload_n 0, 1) := by decide +kernel
theorem zd264_118 : decode zxm264.2.1 118 = .ok (.getfield 176, 3) := by decide +kernel
theorem zd264_121 : decode zxm264.2.1 121 = .ok (.iconst 1, 1) := by decide +kernel
theorem zd264_122 : decode zxm264.2.1 122 = .ok (.iadd, 1) := by decide +kernel
theorem zd264_123 : decode zxm264.2.1 123 = .ok (.putfield 176, 3) := by decide +kernel
theorem zd264_126 : decode zxm264.2.1 126 = .ok (.aload_n 0, 1) := by decide +kernel
theorem zd264_127 : decode zxm264.2.1 127 = .ok (.getfield 71, 3) := by decide +kernel
theorem zd264_130 : decode zxm264.2.1 130 = .ok (.aload_n 0, 1) := by decide +kernel
theorem zd264_131 : decode zxm264.2.1 131 = .ok (.getfield 339, 3) := by decide +kernel
theorem zd264_134 : decode zxm264.2.1 134 = .ok (.iload_n 2, 1) := by decide +kernel
theorem zd264_135 : decode zxm264.2.1 135 = .ok (.iastore, 1) := by decide +kernel
theorem zd264_136 : decode zxm264.2.1 136 = .ok (.aload_n 0, 1) := by decide +kernel
theorem zd264_137 : decode zxm264.2.1 137 = .ok (.getfield 74, 3) := by decide +kernel
theorem zd264_140 : decode zxm264.2.1 140 = .ok (.aload_n 0, 1) := by decide +kernel
theorem zd264_141 : decode zxm264.2.1 141 = .ok (.getfield 339, 3) := by decide +kernel
theorem zd264_144 : decode zxm264.2.1 144 = .ok (.iload_n 3, 1) := by decide +kernel
theorem zd264_145 : decode zxm264.2.1 145 = .ok (.iastore, 1) := by decide +kernel
theorem zd264_146 : decode zxm264.2.1 146 = .ok (.aload_n 0, 1) := by decide +kernel
theorem zd264_147 : decode zxm264.2.1 147 = .ok (.aload_n 0, 1) := by decide +kernel
theorem zd264_148 : decode zxm264.2.1 148 = .ok (.getfield 339, 3) := by decide +kernel
theorem zd264_151 : decode zxm264.2.1 151 = .ok (.iconst 1, 1) := by decide +kernel
theorem zd264_152 : decode zxm264.2.1 152 = .ok (.iadd, 1) := by decide +kernel
theorem zd264_153 : decode zxm264.2.1 153 = .ok (.putfield 339, 3) := by decide +kernel
theorem zd264_156 : decode zxm264.2.1 156 = .ok (.iconst 1, 1) := by decide +kernel
theorem zd264_157 : decode zxm264.2.1 157 = .ok (.ireturn, 1) := by decide +kernel
theorem zt_M_readsTaleLine {f0 : Int} {f1 : Int} {f2 : Int} {f3 : Int} {g0 : (Int → Int)} {g1 : (Int → Int)} {g2 : (Int → Int)} {o : Int × Int × Int × Int × (Int → Int) × (Int → Int)} (h : zf_M_readsTaleLine f0 f1 f2 f3 g0 g1 g2 = some o) : zv_Fn z_TB z_cl z_KX zy_M_readsTaleLine zxm264 (2, 120) [.inr 0] [.inl f0, .inl f1, .inl f2, .inl f3] [g0, g1, g2] (some o.1) [.inl o.2.1, .inl f1, .inl o.2.2.1, .inl o.2.2.2.1] [g0, o.2.2.2.2.1, o.2.2.2.2.2] := zv_meth (K := (z_KF13, z_KC13, z_KL13, z_KT13, [], [], [], none)) (FT := z_FT) (MT := z_MT) (n := 1) zxp264 (z_ks13 _ (fun _ h => List.mem_cons_of_mem _ h) _ _ _ _ (fun j r h _ => by cases h)) (fun _ _ => zs_KX_p) zyw_M_readsTaleLine (fun va F G h => by obtain ⟨rfl, _⟩ := h; rfl) (fun va F G h => by obtain ⟨rfl, _⟩ := h; rfl) rfl fun good va F G hB hret hvret hP => by
  obtain ⟨rfl, rfl, rfl⟩ := hP
  unfold zf_M_readsTaleLine at h
  refine zv_ald hB zd264_0 rfl rfl rfl ?_
  refine zv_getf hB zd264_1 rfl rfl (fun _ _ => ?_)
  refine zv_ist hB zd264_4 rfl rfl rfl ?_
  refine zv_ald hB zd264_5 rfl rfl rfl ?_
  obtain ⟨r1, hr1, h⟩ := zi_bind h
  refine zv_cv hB (zv_emq (va2 := [.inr 0]) (F := [.inl f0, .inl f1, .inl f2, .inl f3]) (F' := [.inl f0, .inl f1, .inl f2, .inl f3]) (G := [g0, g1, g2]) (G' := [g0, g1, g2]) (ρ := [0, 1]) (φ := [0, 1]) (ψ := [0]) [some 0, some 1, none, none] [some 0, none, none] zyw_M_isName zyw_M_readsTaleLine zye_M_readsTaleLine (by decide +kernel) (zt_M_isName hr1) ⟨⟨_, rfl, fun _ => rfl⟩, ⟨_, rfl, fun _ => rfl⟩, trivial⟩ ⟨rfl, trivial⟩ rfl rfl rfl rfl rfl rfl rfl) zd264_6 zxt265 rfl (by decide) (by decide) rfl ?_
  refine zv_zne hB zd264_9 rfl (fun hc2 => ?_) (fun hc2 => ?_)
  · rw [if_neg hc2] at h
    refine zv_ald hB zd264_22 rfl rfl rfl ?_
    refine zv_getf hB zd264_23 rfl rfl (fun _ _ => ?_)
    refine zv_con hB zd264_26 rfl ?_
    refine zv_cne hB zd264_28 rfl (fun hc3 => ?_) (fun hc3 => ?_)
    · rw [if_neg hc3] at h
      refine zv_ald hB zd264_41 rfl rfl rfl ?_
      obtain ⟨r4, hr4, h⟩ := zi_bind h
      refine zv_cv hB (zv_emq (va2 := [.inr 0]) (F := [.inl f0, .inl f1, .inl f2, .inl f3]) (F' := [.inl f0, .inl f1, .inl f2, .inl f3]) (G := [g0, g1, g2]) (G' := [g0, g1, g2]) (ρ := [0, 1]) (φ := [0, 1]) (ψ := [0]) [some 0, some 1, none, none] [some 0, none, none] zyw_M_here zyw_M_readsTaleLine zye_M_readsTaleLine (by decide +kernel) (zt_M_here hr4) ⟨⟨_, rfl, fun _ => rfl⟩, ⟨_, rfl, fun _ => rfl⟩, trivial⟩ ⟨rfl, trivial⟩ rfl rfl rfl rfl rfl rfl rfl) zd264_42 zxt217 rfl (by decide) (by decide) rfl ?_
      refine zv_con hB zd264_45 rfl ?_
      refine zv_subw hB zd264_47 ?_
      refine zv_ist hB zd264_48 rfl rfl rfl ?_
      refine zv_ald hB zd264_49 rfl rfl rfl ?_
      refine zv_ald hB zd264_50 rfl rfl rfl ?_
      refine zv_getf hB zd264_51 rfl rfl (fun _ _ => ?_)
      refine zv_con hB zd264_54 rfl ?_
      refine zv_addw hB zd264_55 ?_
      refine zv_putf hB zd264_56 rfl rfl (fun h => by cases h) rfl ?_
      refine zv_ald hB zd264_59 rfl rfl rfl ?_
      obtain ⟨r5, hr5, h⟩ := zi_bind h
      refine zv_cv hB (zv_emq (va2 := [.inr 0]) (F := [.inl (zi_w (f0 + 1)), .inl f1, .inl f2, .inl f3]) (F' := [.inl (zi_w (f0 + 1)), .inl f1, .inl f2, .inl f3]) (G := [g0, g1, g2]) (G' := [g0, g1, g2]) (ρ := [0, 1]) (φ := [0, 1]) (ψ := [0]) [some 0, some 1, none, none] [some 0, none, none] zyw_M_isName zyw_M_readsTaleLine zye_M_readsTaleLine (by decide +kernel) (zt_M_isName hr5) ⟨⟨_, rfl, fun _ => rfl⟩, ⟨_, rfl, fun _ => rfl⟩, trivial⟩ ⟨rfl, trivial⟩ rfl rfl rfl rfl rfl rfl rfl) zd264_60 zxt265 rfl (by decide) (by decide) rfl ?_
      refine zv_zne hB zd264_63 rfl (fun hc6 => ?_) (fun hc6 => ?_)
      · rw [if_neg hc6] at h
        refine zv_ald hB zd264_76 rfl rfl rfl ?_
        obtain ⟨r7, hr7, h⟩ := zi_bind h
        refine zv_cv hB (zv_emq (va2 := [.inr 0]) (F := [.inl (zi_w (f0 + 1)), .inl f1, .inl f2, .inl f3]) (F' := [.inl (zi_w (f0 + 1)), .inl f1, .inl f2, .inl f3]) (G := [g0, g1, g2]) (G' := [g0, g1, g2]) (ρ := [0, 1]) (φ := [0, 1]) (ψ := [0]) [some 0, some 1, none, none] [some 0, none, none] zyw_M_here zyw_M_readsTaleLine zye_M_readsTaleLine (by decide +kernel) (zt_M_here hr7) ⟨⟨_, rfl, fun _ => rfl⟩, ⟨_, rfl, fun _ => rfl⟩, trivial⟩ ⟨rfl, trivial⟩ rfl rfl rfl rfl rfl rfl rfl) zd264_77 zxt217 rfl (by decide) (by decide) rfl ?_
        refine zv_con hB zd264_80 rfl ?_
        refine zv_subw hB zd264_82 ?_
        refine zv_ist hB zd264_83 rfl rfl rfl ?_
        refine zv_ild hB zd264_84 rfl rfl ?_
        refine zv_ild hB zd264_85 rfl rfl ?_
        refine zv_cne hB zd264_86 rfl (fun hc8 => ?_) (fun hc8 => ?_)
        · rw [if_neg hc8] at h
          refine zv_ald hB zd264_99 rfl rfl rfl ?_
          refine zv_ild hB zd264_100 rfl rfl ?_
          refine zv_ild hB zd264_101 rfl rfl ?_
          obtain ⟨r9, hr9, h⟩ := zi_bind h
          refine zv_cv hB (zv_emq (va2 := [.inr 0, .inl (zi_w (r4 - 65)), .inl (zi_w (r7 - 65))]) (F := [.inl (zi_w (f0 + 1)), .inl f1, .inl f2, .inl f3]) (F' := [.inl (zi_w (f0 + 1)), .inl f1, .inl f2, .inl f3]) (G := [g0, g1, g2]) (G' := [g0, g1, g2]) (ρ := [0, 2, 3]) (φ := [2]) (ψ := [1, 2]) [none, none, some 0, none] [none, some 0, some 1] zyw_M_isTwice zyw_M_readsTaleLine zye_M_readsTaleLine (by decide +kernel) (zt_M_isTwice hr9) ⟨⟨_, rfl, fun _ => rfl⟩, trivial⟩ ⟨rfl, rfl, trivial⟩ rfl rfl rfl rfl rfl rfl rfl) zd264_102 zxt266 rfl (by decide) (by decide) rfl ?_
          refine zv_zeq hB zd264_105 rfl (fun hc10 => ?_) (fun hc10 => ?_)
          · rw [if_pos hc10] at h
            refine zv_ald hB zd264_116 rfl rfl rfl ?_
            refine zv_ald hB zd264_117 rfl rfl rfl ?_
            refine zv_getf hB zd264_118 rfl rfl (fun _ _ => ?_)
            refine zv_con hB zd264_121 rfl ?_
            refine zv_addw hB zd264_122 ?_
            refine zv_putf hB zd264_123 rfl rfl (fun h => by cases h) rfl ?_
            refine zv_ald hB zd264_126 rfl rfl rfl ?_
            refine zv_getr hB zd264_127 rfl ?_
            refine zv_ald hB zd264_130 rfl rfl rfl ?_
            refine zv_getf hB zd264_131 rfl rfl (fun _ _ => ?_)
            refine zv_ild hB zd264_134 rfl rfl ?_
            obtain ⟨c11, h⟩ := zi_if h
            refine zv_iast hB zd264_135 rfl rfl (zi_ix_ok c11).1 (zi_ix_ok c11).2 ?_
            refine zv_ald hB zd264_136 rfl rfl rfl ?_
            refine zv_getr hB zd264_137 rfl ?_
            refine zv_ald hB zd264_140 rfl rfl rfl ?_
            refine zv_getf hB zd264_141 rfl rfl (fun _ _ => ?_)
            refine zv_ild hB zd264_144 rfl rfl ?_
            refine zv_iast hB zd264_145 rfl rfl (zi_ix_ok c11).1 (zi_ix_ok c11).2 ?_
            refine zv_ald hB zd264_146 rfl rfl rfl ?_
            refine zv_ald hB zd264_147 rfl rfl rfl ?_
            refine zv_getf hB zd264_148 rfl rfl (fun _ _ => ?_)
            refine zv_con hB zd264_151 rfl ?_
            refine zv_addw hB zd264_152 ?_
            refine zv_putf hB zd264_153 rfl rfl (fun h => by cases h) rfl ?_
            refine zv_con hB zd264_156 rfl ?_
            have hw := Option.some.inj h
            subst hw
            exact hret _ _ _ _ _ zd264_157 (by constructor <;> decide) ⟨rfl, rfl, rfl⟩
          · rw [if_neg hc10] at h
            refine zv_ald hB zd264_108 rfl rfl rfl ?_
            refine zv_con hB zd264_109 rfl ?_
            refine zv_ild hB zd264_111 rfl rfl ?_
            obtain ⟨r12, hr12, h⟩ := zi_bind h
            refine zv_cv hB (zv_emq (va2 := [.inr 0, .inl 6, .inl f0]) (F := [.inl (zi_w (f0 + 1)), .inl f1, .inl f2, .inl f3]) (F' := [.inl (zi_w (f0 + 1)), .inl f1, .inl f2, .inl r12.2]) (G := [g0, g1, g2]) (G' := [g0, g1, g2]) (ρ := [0]) (φ := [3]) (ψ := []) [none, none, none, some 0] [none, none, none] zyw_M_wrongAt zyw_M_readsTaleLine zye_M_readsTaleLine (by decide +kernel) (zt_M_wrongAt hr12) ⟨⟨_, rfl, fun _ => rfl⟩, trivial⟩ trivial rfl rfl rfl rfl rfl rfl rfl) zd264_112 zxt219 rfl (by decide) (by decide) rfl ?_
            obtain ⟨c13, h⟩ := zi_if h
            have hw := Option.some.inj h
            subst hw
            exact hret _ _ _ _ _ zd264_115 (zi_bo_ok c13) ⟨rfl, rfl, rfl⟩
        · rw [if_pos hc8] at h
          refine zv_ald hB zd264_89 rfl rfl rfl ?_
          refine zv_con hB zd264_90 rfl ?_
          refine zv_ald hB zd264_91 rfl rfl rfl ?_
          refine zv_getf hB zd264_92 rfl rfl (fun _ _ => ?_)
          obtain ⟨r14, hr14, h⟩ := zi_bind h
          refine zv_cv hB (zv_emq (va2 := [.inr 0, .inl 3, .inl (zi_w (f0 + 1))]) (F := [.inl (zi_w (f0 + 1)), .inl f1, .inl f2, .inl f3]) (F' := [.inl (zi_w (f0 + 1)), .inl f1, .inl f2, .inl r14.2]) (G := [g0, g1, g2]) (G' := [g0, g1, g2]) (ρ := [0]) (φ := [3]) (ψ := []) [none, none, none, some 0] [none, none, none] zyw_M_wrongAt zyw_M_readsTaleLine zye_M_readsTaleLine (by decide +kernel) (zt_M_wrongAt hr14) ⟨⟨_, rfl, fun _ => rfl⟩, trivial⟩ trivial rfl rfl rfl rfl rfl rfl rfl) zd264_95 zxt219 rfl (by decide) (by decide) rfl ?_
          obtain ⟨c15, h⟩ := zi_if h
          have hw := Option.some.inj h
          subst hw
          exact hret _ _ _ _ _ zd264_98 (zi_bo_ok c15) ⟨rfl, rfl, rfl⟩
      · rw [if_pos hc6] at h
        refine zv_ald hB zd264_66 rfl rfl rfl ?_
        refine zv_con hB zd264_67 rfl ?_
        refine zv_ald hB zd264_68 rfl rfl rfl ?_
        refine zv_getf hB zd264_69 rfl rfl (fun _ _ => ?_)
        obtain ⟨r16, hr16, h⟩ := zi_bind h
        refine zv_cv hB (zv_emq (va2 := [.inr 0, .inl 1, .inl (zi_w (f0 + 1))]) (F := [.inl (zi_w (f0 + 1)), .inl f1, .inl f2, .inl f3]) (F' := [.inl (zi_w (f0 + 1)), .inl f1, .inl f2, .inl r16.2]) (G := [g0, g1, g2]) (G' := [g0, g1, g2]) (ρ := [0]) (φ := [3]) (ψ := []) [none, none, none, some 0] [none, none, none] zyw_M_wrongAt zyw_M_readsTaleLine zye_M_readsTaleLine (by decide +kernel) (zt_M_wrongAt hr16) ⟨⟨_, rfl, fun _ => rfl⟩, trivial⟩ trivial rfl rfl rfl rfl rfl rfl rfl) zd264_72 zxt219 rfl (by decide) (by decide) rfl ?_
        obtain ⟨c17, h⟩ := zi_if h
        have hw := Option.some.inj h
        subst hw
        exact hret _ _ _ _ _ zd264_75 (zi_bo_ok c17) ⟨rfl, rfl, rfl⟩
    · rw [if_pos hc3] at h
      refine zv_ald hB zd264_31 rfl rfl rfl ?_
      refine zv_con hB zd264_32 rfl ?_
      refine zv_ald hB zd264_33 rfl rfl rfl ?_
      refine zv_getf hB zd264_34 rfl rfl (fun _ _ => ?_)
      obtain ⟨r18, hr18, h⟩ := zi_bind h
      refine zv_cv hB (zv_emq (va2 := [.inr 0, .inl 4, .inl f0]) (F := [.inl f0, .inl f1, .inl f2, .inl f3]) (F' := [.inl f0, .inl f1, .inl f2, .inl r18.2]) (G := [g0, g1, g2]) (G' := [g0, g1, g2]) (ρ := [0]) (φ := [3]) (ψ := []) [none, none, none, some 0] [none, none, none] zyw_M_wrongAt zyw_M_readsTaleLine zye_M_readsTaleLine (by decide +kernel) (zt_M_wrongAt hr18) ⟨⟨_, rfl, fun _ => rfl⟩, trivial⟩ trivial rfl rfl rfl rfl rfl rfl rfl) zd264_37 zxt219 rfl (by decide) (by decide) rfl ?_
      obtain ⟨c19, h⟩ := zi_if h
      have hw := Option.some.inj h
      subst hw
      exact hret _ _ _ _ _ zd264_40 (zi_bo_ok c19) ⟨rfl, rfl, rfl⟩
  · rw [if_pos hc2] at h
    refine zv_ald hB zd264_12 rfl rfl rfl ?_
    refine zv_con hB zd264_13 rfl ?_
    refine zv_ald hB zd264_14 rfl rfl rfl ?_
    refine zv_getf hB zd264_15 rfl rfl (fun _ _ => ?_)
    obtain ⟨r20, hr20, h⟩ := zi_bind h
    refine zv_cv hB (zv_emq (va2 := [.inr 0, .inl 1, .inl f0]) (F := [.inl f0, .inl f1, .inl f2, .inl f3]) (F' := [.inl f0, .inl f1, .inl f2, .inl r20.2]) (G := [g0, g1, g2]) (G' := [g0, g1, g2]) (ρ := [0]) (φ := [3]) (ψ := []) [none, none, none, some 0] [none, none, none] zyw_M_wrongAt zyw_M_readsTaleLine zye_M_readsTaleLine (by decide +kernel) (zt_M_wrongAt hr20) ⟨⟨_, rfl, fun _ => rfl⟩, trivial⟩ trivial rfl rfl rfl rfl rfl rfl rfl) zd264_18 zxt219 rfl (by decide) (by decide) rfl ?_
    obtain ⟨c21, h⟩ := zi_if h
    have hw := Option.some.inj h
    subst hw
    exact hret _ _ _ _ _ zd264_21 (zi_bo_ok c21) ⟨rfl, rfl, rfl⟩
/-! M_tale (I)I -/
-- names: 0 StarTalesModel('arg', 0), 1 (1, 220)(0, 12, 3), 2 (0, 12)(0, 12, 36), 3 (0, 12)(0, 12, 37), 4 (0, 12)(0, 12, 34), 5 (0, 12)(0, 12, 35)
-- fields: f0 = 0.taped_, f1 = 0.place0_, f2 = 0.length0_, f3 = 0.newLines_, f4 = 0.fault_, f5 = 0.taleLines_, f6 = 0.namesIn_; arrays: g0 = 1, g1 = 2, g2 = 3, g3 = 4, g4 = 5; out: [('ret', None), ('f', 0), ('f', 1), ('f', 2), ('f', 3), ('f', 4), ('f', 5), ('f', 6), ('g', 1), ('g', 2), ('g', 3), ('g', 4)]
abbrev zy_M_tale : zNL := (6, [(0, 12)], [(0, 12, 4, 0), (0, 12, 5, 1), (0, 12, 6, 2), (0, 12, 32, 3), (0, 12, 7, 4), (0, 12, 31, 5), (0, 12, 33, 6)], [(0, 12, 3, 1), (0, 12, 36, 2), (0, 12, 37, 3), (0, 12, 34, 4), (0, 12, 35, 5)], [(1, 1, 220, 0), (2, 0, 12, 1), (3, 0, 12, 2), (4, 0, 12, 3), (5, 0, 12, 4)])
theorem zyw_M_tale : zv_wf zy_M_tale = true := by decide +kernel
theorem zye_M_tale : zv_ek2 zy_M_tale = true := by decide +kernel
def zf_M_tale_l0_b (f2 : Int) (g0 : (Int → Int)) (rec : Int → Int → Int → Int → (Int → Int) → (Int → Int) → Option (Int × Int × Int × Int × (Int → Int) × (Int → Int))) (x2 : Int) (f1 : Int) (f3 : Int) (f4 : Int) (g1 : (Int → Int)) (g2 : (Int → Int)) : Option (Int × Int × Int × Int × (Int → Int) × (Int → Int)) := if x2 = 0 then (some (x2, f1, f3, f4, g1, g2)) else (if f1 < f2 then ((zf_M_takes 59 f1 f2 f4 g0).bind fun r7 => (if r7.1 = 0 then (rec 0 r7.2.1 f3 r7.2.2 g1 g2) else ((zf_M_readsTaleLine r7.2.1 f2 f3 r7.2.2 g0 g1 g2).bind fun r9 => (if r9.1 = 0 then (rec 0 r9.2.1 r9.2.2.1 r9.2.2.2.1 r9.2.2.2.2.1 r9.2.2.2.2.2) else (rec 1 r9.2.1 r9.2.2.1 r9.2.2.2.1 r9.2.2.2.2.1 r9.2.2.2.2.2))))) else (some (x2, f1, f3, f4, g1, g2)))
def zf_M_tale_l0 (f2 : Int) (g0 : (Int → Int)) : Nat → Int → Int → Int → Int → (Int → Int) → (Int → Int) → Option (Int × Int × Int × Int × (Int → Int) × (Int → Int))
  | 0, _, _, _, _, _, _ => none
  | n + 1, x2, f1, f3, f4, g1, g2 => zf_M_tale_l0_b f2 g0 (zf_M_tale_l0 f2 g0 n) x2 f1 f3 f4 g1 g2
def zf_M_tale_l1_b (f5 : Int) (g1 : (Int → Int)) (g2 : (Int → Int)) (rec : Int → Int → (Int → Int) → (Int → Int) → Option (Int × (Int → Int) × (Int → Int))) (x3 : Int) (f6 : Int) (g3 : (Int → Int)) (g4 : (Int → Int)) : Option (Int × (Int → Int) × (Int → Int)) := if x3 < f5 then (cond (zi_ix x3 12) (rec (zi_w (x3 + 1)) (zi_or (zi_or f6 (zi_shl 1 ((zv_up g3 x3 (g1 x3)) x3))) (zi_shl 1 ((zv_up g4 x3 (g2 x3)) x3))) (zv_up g3 x3 (g1 x3)) (zv_up g4 x3 (g2 x3))) none) else (some (f6, g3, g4))
def zf_M_tale_l1 (f5 : Int) (g1 : (Int → Int)) (g2 : (Int → Int)) : Nat → Int → Int → (Int → Int) → (Int → Int) → Option (Int × (Int → Int) × (Int → Int))
  | 0, _, _, _, _ => none
  | n + 1, x3, f6, g3, g4 => zf_M_tale_l1_b f5 g1 g2 (zf_M_tale_l1 f5 g1 g2 n) x3 f6 g3 g4
def zf_M_tale (x1 : Int) (f0 : Int) (f1 : Int) (f2 : Int) (f3 : Int) (f4 : Int) (f5 : Int) (f6 : Int) (g0 : (Int → Int)) (g1 : (Int → Int)) (g2 : (Int → Int)) (g3 : (Int → Int)) (g4 : (Int → Int)) : Option (Int × Int × Int × Int × Int × Int × Int × Int × (Int → Int) × (Int → Int) × (Int → Int) × (Int → Int)) := (zf_M_in x1 1 60).bind fun r1 => (if r1 = 0 then (some ((-1), f0, f1, f2, f3, f4, f5, f6, g1, g2, g3, g4)) else (if f0 < x1 then (some ((-1), f0, f1, f2, f3, f4, f5, f6, g1, g2, g3, g4)) else ((zf_M_readsTaleLine 0 x1 0 f4 g0 g1 g2).bind fun r4 => ((zf_M_tale_l0 x1 g0 zi_fu r4.1 r4.2.1 r4.2.2.1 r4.2.2.2.1 r4.2.2.2.2.1 r4.2.2.2.2.2).bind fun q11 => (if q11.1 = 0 then (some (q11.2.2.2.1, 0, q11.2.1, x1, q11.2.2.1, q11.2.2.2.1, f5, f6, q11.2.2.2.2.1, q11.2.2.2.2.2, g3, g4)) else ((zf_M_tale_l1 q11.2.2.1 q11.2.2.2.2.1 q11.2.2.2.2.2 zi_fu 0 0 g3 g4).bind fun q15 => (some (q11.2.2.1, 0, q11.2.1, x1, q11.2.2.1, q11.2.2.2.1, q11.2.2.1, q15.1, q11.2.2.2.2.1, q11.2.2.2.2.2, q15.2.1, q15.2.2))))))))
theorem zd263_0 : decode zxm263.2.1 0 = .ok (.iload_n 1, 1) := by decide +kernel
theorem zd263_1 : decode zxm263.2.1 1 = .ok (.iconst 1, 1) := by decide +kernel
theorem zd263_2 : decode zxm263.2.1 2 = .ok (.bipush 60, 2) := by decide +kernel
theorem zd263_4 : decode zxm263.2.1 4 = .ok (.invokestatic 150, 3) := by decide +kernel
theorem zd263_7 : decode zxm263.2.1 7 = .ok (.ifCond .eq 11, 3) := by decide +kernel
theorem zd263_10 : decode zxm263.2.1 10 = .ok (.iload_n 1, 1) := by decide +kernel
theorem zd263_11 : decode zxm263.2.1 11 = .ok (.aload_n 0, 1) := by decide +kernel
theorem zd263_12 : decode zxm263.2.1 12 = .ok (.getfield 168, 3) := by decide +kernel
theorem zd263_15 : decode zxm263.2.1 15 = .ok (.if_icmp .le 5, 3) := by decide +kernel
theorem zd263_18 : decode zxm263.2.1 18 = .ok (.iconst (-1), 1) := by decide +kernel
theorem zd263_19 : decode zxm263.2.1 19 = .ok (.ireturn, 1) := by decide +kernel
theorem zd263_20 : decode zxm263.2.1 20 = .ok (.aload_n 0, 1) := by decide +kernel
theorem zd263_21 : decode zxm263.2.1 21 = .ok (.iconst 0, 1) := by decide +kernel
theorem zd263_22 : decode zxm263.2.1 22 = .ok (.putfield 176, 3) := by decide +kernel
theorem zd263_25 : decode zxm263.2.1 25 = .ok (.aload_n 0, 1) := by decide +kernel
theorem zd263_26 : decode zxm263.2.1 26 = .ok (.iload_n 1, 1) := by decide +kernel
theorem zd263_27 : decode zxm263.2.1 27 = .ok (.putfield 179, 3) := by decide +kernel
theorem zd263_30 : decode zxm263.2.1 30 = .ok (.aload_n 0, 1) := by decide +kernel
theorem zd263_31 : decode zxm263.2.1 31 = .ok (.iconst 0, 1) := by decide +kernel
theorem zd263_32 : decode zxm263.2.1 32 = .ok (.putfield 339, 3) := by decide +kernel
theorem zd263_35 : decode zxm263.2.1 35 = .ok (.aload_n 0, 1) := by decide +kernel
theorem zd263_36 : decode zxm263.2.1 36 = .ok (.invokevirtual 348, 3) := by decide +kernel
theorem zd263_39 : decode zxm263.2.1 39 = .ok (.istore_n 2, 1) := by decide +kernel
theorem zd263_40 : decode zxm263.2.1 40 = .ok (.iload_n 2, 1) := by decide +kernel
theorem zd263_41 : decode zxm263.2.1 41 = .ok (.ifCond .eq 39, 3) := by decide +kernel
theorem zd263_44 : decode zxm263.2.1 44 = .ok (.aload_n 0, 1) := by decide +kernel
theorem zd263_45 : decode zxm263.2.1 45 = .ok (.getfield 176, 3) := by decide +kernel
theorem zd263_48 : decode zxm263.2.1 48 = .ok (.aload_n 0, 1) := by decide +kernel
theorem zd263_49 : decode zxm263.2.1 49 = .ok (.getfield 179, 3) := by decide +kernel
theorem zd263_52 : decode zxm263.2.1 52 = .ok (.if_icmp .ge 28, 3) := by decide +kernel
theorem zd263_55 : decode zxm263.2.1 55 = .ok (.aload_n 0, 1) := by decide +kernel
theorem zd263_56 : decode zxm263.2.1 56 = .ok (.bipush 59, 2) := by decide +kernel
theorem zd263_58 : decode zxm263.2.1 58 = .ok (.invokevirtual 265, 3) := by decide +kernel
theorem zd263_61 : decode zxm263.2.1 61 = .ok (.ifCond .eq 14, 3) := by decide +kernel
theorem zd263_64 : decode zxm263.2.1 64 = .ok (.aload_n 0, 1) := by decide +kernel
theorem zd263_65 : decode zxm263.2.1 65 = .ok (.invokevirtual 348, 3) := by decide +kernel
theorem zd263_68 : decode zxm263.2.1 68 = .ok (.ifCond .eq 7, 3) := by decide +kernel
theorem zd263_71 : decode zxm263.2.1 71 = .ok (.iconst 1, 1) := by decide +kernel
theorem zd263_72 : decode zxm263.2.1 72 = .ok (.goto 4, 3) := by decide +kernel
theorem zd263_75 : decode zxm263.2.1 75 = .ok (.iconst 0, 1) := by decide +kernel
theorem zd263_76 : decode zxm263.2.1 76 = .ok (.istore_n 2, 1) := by decide +kernel
theorem zd263_77 : decode zxm263.2.1 77 = .ok (.goto (-37), 3) := by decide +kernel
theorem zd263_80 : decode zxm263.2.1 80 = .ok (.aload_n 0, 1) := by decide +kernel
theorem zd263_81 : decode zxm263.2.1 81 = .ok (.iconst 0, 1) := by decide +kernel
theorem zd263_82 : decode zxm263.2.1 82 = .ok (.putfield 168, 3) := by decide +kernel
theorem zd263_85 : decode zxm263.2.1 85 = .ok (.iload_n 2, 1) := by decide +kernel
theorem zd263_86 : decode zxm263.2.1 86 = .ok (.ifCond .ne 8, 3) := by decide +kernel
theorem zd263_89 : decode zxm263.2.1 89 = .ok (.aload_n 0, 1) := by decide +kernel
theorem zd263_90 : decode zxm263.2.1 90 = .ok (.getfield 186, 3) := by decide +kernel
theorem zd263_93 : decode zxm263.2.1 93 = .ok (.ireturn, 1) := by decide +kernel
theorem zd263_94 : decode zxm263.2.1 94 = .ok (.aload_n 0, 1) := by decide +kernel
theorem zd263_95 : decode zxm263.2.1 95 = .ok (.aload_n 0, 1) := by decide +kernel
theorem zd263_96 : decode zxm263.2.1 96 = .ok (.getfield 339, 3) := by decide +kernel
theorem zd263_99 : decode zxm263.2.1 99 = .ok (.putfield 351, 3) := by decide +kernel
theorem zd263_102 : decode zxm263.2.1 102 = .ok (.aload_n 0, 1) := by decide +kernel
theorem zd263_103 : decode zxm263.2.1 103 = .ok (.iconst 0, 1) := by decide +kernel
theorem zd263_104 : decode zxm263.2.1 104 = .ok (.putfield 354, 3) := by decide +kernel
theorem zd263_107 : decode zxm263.2.1 107 = .ok (.iconst 0, 1) := by decide +kernel
theorem zd263_108 : decode zxm263.2.1 108 = .ok (.istore_n 3, 1) := by decide +kernel
theorem zd263_109 : decode zxm263.2.1 109 = .ok (.iload_n 3, 1) := by decide +kernel
theorem zd263_110 : decode zxm263.2.1 110 = .ok (.aload_n 0, 1) := by decide +kernel
theorem zd263_111 : decode zxm263.2.1 111 = .ok (.getfield 351, 3) := by decide +kernel
theorem zd263_114 : decode zxm263.2.1 114 = .ok (.if_icmp .ge 59, 3) := by decide +kernel
theorem zd263_117 : decode zxm263.2.1 117 = .ok (.aload_n 0, 1) := by decide +kernel
theorem zd263_118 : decode zxm263.2.1 118 = .ok (.getfield 65, 3) := by decide +kernel
theorem zd263_121 : decode zxm263.2.1 121 = .ok (.iload_n 3, 1) := by decide +kernel
theorem zd263_122 : decode zxm263.2.1 122 = .ok (.aload_n 0, 1) := by decide +kernel
theorem zd263_123 : decode zxm263.2.1 123 = .ok (.getfield 71, 3) := by decide +kernel
theorem zd263_126 : decode zxm263.2.1 126 = .ok (.iload_n 3, 1) := by decide +kernel
theorem zd263_127 : decode zxm263.2.1 127 = .ok (.iaload, 1) := by decide +kernel
theorem zd263_128 : decode zxm263.2.1 128 = .ok (.iastore, 1) := by decide +kernel
theorem zd263_129 : decode zxm263.2.1 129 = .ok (.aload_n 0, 1) := by decide +kernel
theorem zd263_130 : decode zxm263.2.1 130 = .ok (.getfield 68, 3) := by decide +kernel
theorem zd263_133 : decode zxm263.2.1 133 = .ok (.iload_n 3, 1) := by decide +kernel
theorem zd263_134 : decode zxm263.2.1 134 = .ok (.aload_n 0, 1) := by decide +kernel
theorem zd263_135 : decode zxm263.2.1 135 = .ok (.getfield 74, 3) := by decide +kernel
theorem zd263_138 : decode zxm263.2.1 138 = .ok (.iload_n 3, 1) := by decide +kernel
theorem zd263_139 : decode zxm263.2.1 139 = .ok (.iaload, 1) := by decide +kernel
theorem zd263_140 : decode zxm263.2.1 140 = .ok (.iastore, 1) := by decide +kernel
theorem zd263_141 : decode zxm263.2.1 141 = .ok (.aload_n 0, 1) := by decide +kernel
theorem zd263_142 : decode zxm263.2.1 142 = .ok (.aload_n 0, 1) := by decide +kernel
theorem zd263_143 : decode zxm263.2.1 143 = .ok (.getfield 354, 3) := by decide +kernel
theorem zd263_146 : decode zxm263.2.1 146 = .ok (.iconst 1, 1) := by decide +kernel
theorem zd263_147 : decode zxm263.2.1 147 = .ok (.aload_n 0, 1) := by decide +kernel
theorem zd263_148 : decode zxm263.2.1 148 = .ok (.getfield 65, 3) := by decide +kernel
theorem zd263_151 : decode zxm263.2.1 151 = .ok (.iload_n 3, 1) := by decide +kernel
theorem zd263_152 : decode zxm263.2.1 152 = .ok (.iaload, 1) := by decide +kernel
theorem zd263_153 : decode zxm263.2.1 153 = .ok (.ishl, 1) := by decide +kernel
theorem zd263_154 : decode zxm263.2.1 154 = .ok (.ior, 1) := by decide +kernel
theorem zd263_155 : decode zxm263.2.1 155 = .ok (.iconst 1, 1) := by decide +kernel
theorem zd263_156 : decode zxm263.2.1 156 = .ok (.aload_n 0, 1) := by decide +kernel
theorem zd263_157 : decode zxm263.2.1 157 = .ok (.getfield 68, 3) := by decide +kernel
theorem zd263_160 : decode zxm263.2.1 160 = .ok (.iload_n 3, 1) := by decide +kernel
theorem zd263_161 : decode zxm263.2.1 161 = .ok (.iaload, 1) := by decide +kernel
theorem zd263_162 : decode zxm263.2.1 162 = .ok (.ishl, 1) := by decide +kernel
theorem zd263_163 : decode zxm263.2.1 163 = .ok (.ior, 1) := by decide +kernel
theorem zd263_164 : decode zxm263.2.1 164 = .ok (.putfield 354, 3) := by decide +kernel
theorem zd263_167 : decode zxm263.2.1 167 = .ok (.iinc 3 1, 3) := by decide +kernel
theorem zd263_170 : decode zxm263.2.1 170 = .ok (.goto (-61), 3) := by decide +kernel
theorem zd263_173 : decode zxm263.2.1 173 = .ok (.aload_n 0, 1) := by decide +kernel
theorem zd263_174 : decode zxm263.2.1 174 = .ok (.getfield 351, 3) := by decide +kernel
theorem zd263_177 : decode zxm263.2.1 177 = .ok (.ireturn, 1) := by decide +kernel
theorem zt_M_tale {x1 : Int} {f0 : Int} {f1 : Int} {f2 : Int} {f3 : Int} {f4 : Int} {f5 : Int} {f6 : Int} {g0 : (Int → Int)} {g1 : (Int → Int)} {g2 : (Int → Int)} {g3 : (Int → Int)} {g4 : (Int → Int)} {o : Int × Int × Int × Int × Int × Int × Int × Int × (Int → Int) × (Int → Int) × (Int → Int) × (Int → Int)} (h : zf_M_tale x1 f0 f1 f2 f3 f4 f5 f6 g0 g1 g2 g3 g4 = some o) : zv_Fn z_TB z_cl z_KX zy_M_tale zxm263 (3, 180) [.inr 0, .inl x1] [.inl f0, .inl f1, .inl f2, .inl f3, .inl f4, .inl f5, .inl f6] [g0, g1, g2, g3, g4] (some o.1) [.inl o.2.1, .inl o.2.2.1, .inl o.2.2.2.1, .inl o.2.2.2.2.1, .inl o.2.2.2.2.2.1, .inl o.2.2.2.2.2.2.1, .inl o.2.2.2.2.2.2.2.1] [g0, o.2.2.2.2.2.2.2.2.1, o.2.2.2.2.2.2.2.2.2.1, o.2.2.2.2.2.2.2.2.2.2.1, o.2.2.2.2.2.2.2.2.2.2.2] := zv_meth (K := (z_KF13, z_KC13, z_KL13, z_KT13, [], [], [], none)) (FT := z_FT) (MT := z_MT) (n := 2) zxp263 (z_ks13 _ (fun _ h => List.mem_cons_of_mem _ h) _ _ _ _ (fun j r h _ => by cases h)) (fun _ _ => zs_KX_p) zyw_M_tale (fun va F G h => by obtain ⟨rfl, _⟩ := h; rfl) (fun va F G h => by obtain ⟨rfl, _⟩ := h; rfl) rfl fun good va F G hB hret hvret hP => by
  obtain ⟨rfl, rfl, rfl⟩ := hP
  have l0 : ∀ (n : Nat) (x2 : Int) (f0 : Int) (f1 : Int) (f2 : Int) (f3 : Int) (f4 : Int) (f5 : Int) (f6 : Int) (g1 : (Int → Int)) (g2 : (Int → Int)) (g3 : (Int → Int)) (g4 : (Int → Int)) (q : Int × Int × Int × Int × (Int → Int) × (Int → Int)), zf_M_tale_l0 f2 g0 n x2 f1 f3 f4 g1 g2 = some q → (good 80 [.inr 0, .inr 1000, .inl q.1, .inr 1000] [] [.inl f0, .inl q.2.1, .inl f2, .inl q.2.2.1, .inl q.2.2.2.1, .inl f5, .inl f6] [g0, q.2.2.2.2.1, q.2.2.2.2.2, g3, g4]) → good 40 [.inr 0, .inr 1000, .inl x2, .inr 1000] [] [.inl f0, .inl f1, .inl f2, .inl f3, .inl f4, .inl f5, .inl f6] [g0, g1, g2, g3, g4] := by
    intro n
    induction n with
    | zero => intro x2 f0 f1 f2 f3 f4 f5 f6 g1 g2 g3 g4 q h; exact absurd (show none = some q from h) (fun h => by cases h)
    | succ n ih =>
      intro x2 f0 f1 f2 f3 f4 f5 f6 g1 g2 g3 g4 q h hK
      replace h : zf_M_tale_l0_b f2 g0 (zf_M_tale_l0 f2 g0 n) x2 f1 f3 f4 g1 g2 = some q := h
      unfold zf_M_tale_l0_b at h
      refine zv_ild hB zd263_40 rfl rfl ?_
      refine zv_zeq hB zd263_41 rfl (fun hc5 => ?_) (fun hc5 => ?_)
      · rw [if_pos hc5] at h
        have hq := Option.some.inj h
        subst hq
        exact hK
      · rw [if_neg hc5] at h
        refine zv_ald hB zd263_44 rfl rfl rfl ?_
        refine zv_getf hB zd263_45 rfl rfl (fun _ _ => ?_)
        refine zv_ald hB zd263_48 rfl rfl rfl ?_
        refine zv_getf hB zd263_49 rfl rfl (fun _ _ => ?_)
        refine zv_cge hB zd263_52 rfl (fun hc6 => ?_) (fun hc6 => ?_)
        · rw [if_neg (Int.not_lt.mpr hc6)] at h
          have hq := Option.some.inj h
          subst hq
          exact hK
        · rw [if_pos hc6] at h
          refine zv_ald hB zd263_55 rfl rfl rfl ?_
          refine zv_con hB zd263_56 rfl ?_
          obtain ⟨r7, hr7, h⟩ := zi_bind h
          refine zv_cv hB (zv_emq (va2 := [.inr 0, .inl 59]) (F := [.inl f0, .inl f1, .inl f2, .inl f3, .inl f4, .inl f5, .inl f6]) (F' := [.inl f0, .inl r7.2.1, .inl f2, .inl f3, .inl r7.2.2, .inl f5, .inl f6]) (G := [g0, g1, g2, g3, g4]) (G' := [g0, g1, g2, g3, g4]) (ρ := [0, 1]) (φ := [1, 2, 4]) (ψ := [0]) [none, some 0, some 1, none, some 2, none, none] [some 0, none, none, none, none] zyw_M_takes zyw_M_tale zye_M_tale (by decide +kernel) (zt_M_takes hr7) ⟨⟨_, rfl, fun _ => rfl⟩, ⟨_, rfl, fun _ => rfl⟩, ⟨_, rfl, fun _ => rfl⟩, trivial⟩ ⟨rfl, trivial⟩ rfl rfl rfl rfl rfl rfl rfl) zd263_58 zxt236 rfl (by decide) (by decide) rfl ?_
          refine zv_zeq hB zd263_61 rfl (fun hc8 => ?_) (fun hc8 => ?_)
          · rw [if_pos hc8] at h
            refine zv_con hB zd263_75 rfl ?_
            refine zv_ist hB zd263_76 rfl rfl rfl ?_
            refine zv_goto hB zd263_77 rfl ?_
            exact ih _ _ _ _ _ _ _ _ _ _ _ _ q h hK
          · rw [if_neg hc8] at h
            refine zv_ald hB zd263_64 rfl rfl rfl ?_
            obtain ⟨r9, hr9, h⟩ := zi_bind h
            refine zv_cv hB (zv_emq (va2 := [.inr 0]) (F := [.inl f0, .inl r7.2.1, .inl f2, .inl f3, .inl r7.2.2, .inl f5, .inl f6]) (F' := [.inl f0, .inl r9.2.1, .inl f2, .inl r9.2.2.1, .inl r9.2.2.2.1, .inl f5, .inl f6]) (G := [g0, g1, g2, g3, g4]) (G' := [g0, r9.2.2.2.2.1, r9.2.2.2.2.2, g3, g4]) (ρ := [0, 1, 2, 3]) (φ := [1, 2, 3, 4]) (ψ := [0, 1, 2]) [none, some 0, some 1, some 2, some 3, none, none] [some 0, some 1, some 2, none, none] zyw_M_readsTaleLine zyw_M_tale zye_M_tale (by decide +kernel) (zt_M_readsTaleLine hr9) ⟨⟨_, rfl, fun _ => rfl⟩, ⟨_, rfl, fun _ => rfl⟩, ⟨_, rfl, fun _ => rfl⟩, ⟨_, rfl, fun _ => rfl⟩, trivial⟩ ⟨rfl, rfl, rfl, trivial⟩ rfl rfl rfl rfl rfl rfl rfl) zd263_65 zxt264 rfl (by decide) (by decide) rfl ?_
            refine zv_zeq hB zd263_68 rfl (fun hc10 => ?_) (fun hc10 => ?_)
            · rw [if_pos hc10] at h
              refine zv_con hB zd263_75 rfl ?_
              refine zv_ist hB zd263_76 rfl rfl rfl ?_
              refine zv_goto hB zd263_77 rfl ?_
              exact ih _ _ _ _ _ _ _ _ _ _ _ _ q h hK
            · rw [if_neg hc10] at h
              refine zv_con hB zd263_71 rfl ?_
              refine zv_goto hB zd263_72 rfl ?_
              refine zv_ist hB zd263_76 rfl rfl rfl ?_
              refine zv_goto hB zd263_77 rfl ?_
              exact ih _ _ _ _ _ _ _ _ _ _ _ _ q h hK
  have l1 : ∀ (n : Nat) (x3 : Int) (f0 : Int) (f1 : Int) (f2 : Int) (f3 : Int) (f4 : Int) (f5 : Int) (f6 : Int) (g1 : (Int → Int)) (g2 : (Int → Int)) (g3 : (Int → Int)) (g4 : (Int → Int)) (q : Int × (Int → Int) × (Int → Int)), zf_M_tale_l1 f5 g1 g2 n x3 f6 g3 g4 = some q → (good 173 [.inr 0, .inr 1000, .inr 1000, .inr 1000] [] [.inl f0, .inl f1, .inl f2, .inl f3, .inl f4, .inl f5, .inl q.1] [g0, g1, g2, q.2.1, q.2.2]) → good 109 [.inr 0, .inr 1000, .inr 1000, .inl x3] [] [.inl f0, .inl f1, .inl f2, .inl f3, .inl f4, .inl f5, .inl f6] [g0, g1, g2, g3, g4] := by
    intro n
    induction n with
    | zero => intro x3 f0 f1 f2 f3 f4 f5 f6 g1 g2 g3 g4 q h; exact absurd (show none = some q from h) (fun h => by cases h)
    | succ n ih =>
      intro x3 f0 f1 f2 f3 f4 f5 f6 g1 g2 g3 g4 q h hK
      replace h : zf_M_tale_l1_b f5 g1 g2 (zf_M_tale_l1 f5 g1 g2 n) x3 f6 g3 g4 = some q := h
      unfold zf_M_tale_l1_b at h
      refine zv_ild hB zd263_109 rfl rfl ?_
      refine zv_ald hB zd263_110 rfl rfl rfl ?_
      refine zv_getf hB zd263_111 rfl rfl (fun _ _ => ?_)
      refine zv_cge hB zd263_114 rfl (fun hc13 => ?_) (fun hc13 => ?_)
      · rw [if_neg (Int.not_lt.mpr hc13)] at h
        have hq := Option.some.inj h
        subst hq
        refine zv_wk hB (L' := [.inr 0, .inr 1000, .inr 1000, .inr 1000]) (F' := [.inl f0, .inl f1, .inl f2, .inl f3, .inl f4, .inl f5, .inl f6]) ⟨fun _ => rfl, fun (h : zv_is (.inr 1000)) => (Nat.lt_irrefl 1000 h).elim, fun (h : zv_is (.inr 1000)) => (Nat.lt_irrefl 1000 h).elim, fun (h : zv_is (.inr 1000)) => (Nat.lt_irrefl 1000 h).elim, trivial⟩ ⟨fun _ => rfl, fun _ => rfl, fun _ => rfl, fun _ => rfl, fun _ => rfl, fun _ => rfl, fun _ => rfl, trivial⟩ ?_
        exact hK
      · rw [if_pos hc13] at h
        refine zv_ald hB zd263_117 rfl rfl rfl ?_
        refine zv_getr hB zd263_118 rfl ?_
        refine zv_ild hB zd263_121 rfl rfl ?_
        refine zv_ald hB zd263_122 rfl rfl rfl ?_
        refine zv_getr hB zd263_123 rfl ?_
        refine zv_ild hB zd263_126 rfl rfl ?_
        obtain ⟨c14, h⟩ := zi_if h
        refine zv_iald hB zd263_127 rfl rfl (zi_ix_ok c14).1 (zi_ix_ok c14).2 (fun _ _ => ?_)
        refine zv_iast hB zd263_128 rfl rfl (zi_ix_ok c14).1 (zi_ix_ok c14).2 ?_
        refine zv_ald hB zd263_129 rfl rfl rfl ?_
        refine zv_getr hB zd263_130 rfl ?_
        refine zv_ild hB zd263_133 rfl rfl ?_
        refine zv_ald hB zd263_134 rfl rfl rfl ?_
        refine zv_getr hB zd263_135 rfl ?_
        refine zv_ild hB zd263_138 rfl rfl ?_
        refine zv_iald hB zd263_139 rfl rfl (zi_ix_ok c14).1 (zi_ix_ok c14).2 (fun _ _ => ?_)
        refine zv_iast hB zd263_140 rfl rfl (zi_ix_ok c14).1 (zi_ix_ok c14).2 ?_
        refine zv_ald hB zd263_141 rfl rfl rfl ?_
        refine zv_ald hB zd263_142 rfl rfl rfl ?_
        refine zv_getf hB zd263_143 rfl rfl (fun _ _ => ?_)
        refine zv_con hB zd263_146 rfl ?_
        refine zv_ald hB zd263_147 rfl rfl rfl ?_
        refine zv_getr hB zd263_148 rfl ?_
        refine zv_ild hB zd263_151 rfl rfl ?_
        refine zv_iald hB zd263_152 rfl rfl (zi_ix_ok c14).1 (zi_ix_ok c14).2 (fun _ _ => ?_)
        refine zv_shlw hB zd263_153 ?_
        refine zv_orw hB zd263_154 ?_
        refine zv_con hB zd263_155 rfl ?_
        refine zv_ald hB zd263_156 rfl rfl rfl ?_
        refine zv_getr hB zd263_157 rfl ?_
        refine zv_ild hB zd263_160 rfl rfl ?_
        refine zv_iald hB zd263_161 rfl rfl (zi_ix_ok c14).1 (zi_ix_ok c14).2 (fun _ _ => ?_)
        refine zv_shlw hB zd263_162 ?_
        refine zv_orw hB zd263_163 ?_
        refine zv_putf hB zd263_164 rfl rfl (fun h => by cases h) rfl ?_
        refine zv_iincw hB zd263_167 rfl rfl ?_
        refine zv_goto hB zd263_170 rfl ?_
        exact ih _ _ _ _ _ _ _ _ _ _ _ _ q h hK
  unfold zf_M_tale at h
  refine zv_ild hB zd263_0 rfl rfl ?_
  refine zv_con hB zd263_1 rfl ?_
  refine zv_con hB zd263_2 rfl ?_
  obtain ⟨r1, hr1, h⟩ := zi_bind h
  refine zv_cs hB (zv_emq (va2 := [.inl x1, .inl 1, .inl 60]) (F := [.inl f0, .inl f1, .inl f2, .inl f3, .inl f4, .inl f5, .inl f6]) (F' := [.inl f0, .inl f1, .inl f2, .inl f3, .inl f4, .inl f5, .inl f6]) (G := [g0, g1, g2, g3, g4]) (G' := [g0, g1, g2, g3, g4]) (ρ := []) (φ := []) (ψ := []) [none, none, none, none, none, none, none] [none, none, none, none, none] zyw_M_in zyw_M_tale zye_M_tale (by decide +kernel) (zt_M_in hr1) trivial trivial rfl rfl rfl rfl rfl rfl rfl) zd263_4 zxt200 rfl (by decide) (by decide) rfl ?_
  refine zv_zeq hB zd263_7 rfl (fun hc2 => ?_) (fun hc2 => ?_)
  · rw [if_pos hc2] at h
    refine zv_con hB zd263_18 rfl ?_
    have hw := Option.some.inj h
    subst hw
    exact hret _ _ _ _ _ zd263_19 (by trivial) ⟨rfl, rfl, rfl⟩
  · rw [if_neg hc2] at h
    refine zv_ild hB zd263_10 rfl rfl ?_
    refine zv_ald hB zd263_11 rfl rfl rfl ?_
    refine zv_getf hB zd263_12 rfl rfl (fun _ _ => ?_)
    refine zv_cle hB zd263_15 rfl (fun hc3 => ?_) (fun hc3 => ?_)
    · rw [if_neg (Int.not_lt.mpr hc3)] at h
      refine zv_ald hB zd263_20 rfl rfl rfl ?_
      refine zv_con hB zd263_21 rfl ?_
      refine zv_putf hB zd263_22 rfl rfl (fun h => by cases h) rfl ?_
      refine zv_ald hB zd263_25 rfl rfl rfl ?_
      refine zv_ild hB zd263_26 rfl rfl ?_
      refine zv_putf hB zd263_27 rfl rfl (fun h => by cases h) rfl ?_
      refine zv_ald hB zd263_30 rfl rfl rfl ?_
      refine zv_con hB zd263_31 rfl ?_
      refine zv_putf hB zd263_32 rfl rfl (fun h => by cases h) rfl ?_
      refine zv_ald hB zd263_35 rfl rfl rfl ?_
      obtain ⟨r4, hr4, h⟩ := zi_bind h
      refine zv_cv hB (zv_emq (va2 := [.inr 0]) (F := [.inl f0, .inl 0, .inl x1, .inl 0, .inl f4, .inl f5, .inl f6]) (F' := [.inl f0, .inl r4.2.1, .inl x1, .inl r4.2.2.1, .inl r4.2.2.2.1, .inl f5, .inl f6]) (G := [g0, g1, g2, g3, g4]) (G' := [g0, r4.2.2.2.2.1, r4.2.2.2.2.2, g3, g4]) (ρ := [0, 1, 2, 3]) (φ := [1, 2, 3, 4]) (ψ := [0, 1, 2]) [none, some 0, some 1, some 2, some 3, none, none] [some 0, some 1, some 2, none, none] zyw_M_readsTaleLine zyw_M_tale zye_M_tale (by decide +kernel) (zt_M_readsTaleLine hr4) ⟨⟨_, rfl, fun _ => rfl⟩, ⟨_, rfl, fun _ => rfl⟩, ⟨_, rfl, fun _ => rfl⟩, ⟨_, rfl, fun _ => rfl⟩, trivial⟩ ⟨rfl, rfl, rfl, trivial⟩ rfl rfl rfl rfl rfl rfl rfl) zd263_36 zxt264 rfl (by decide) (by decide) rfl ?_
      refine zv_ist hB zd263_39 rfl rfl rfl ?_
      obtain ⟨q11, hq11, h⟩ := zi_bind h
      refine zv_wk hB (L' := [.inr 0, .inr 1000, .inl r4.1, .inr 1000]) (F' := [.inl f0, .inl r4.2.1, .inl x1, .inl r4.2.2.1, .inl r4.2.2.2.1, .inl f5, .inl f6]) ⟨fun _ => rfl, fun (h : zv_is (.inr 1000)) => (Nat.lt_irrefl 1000 h).elim, fun _ => rfl, fun (h : zv_is (.inr 1000)) => (Nat.lt_irrefl 1000 h).elim, trivial⟩ ⟨fun _ => rfl, fun _ => rfl, fun _ => rfl, fun _ => rfl, fun _ => rfl, fun _ => rfl, fun _ => rfl, trivial⟩ ?_
      refine l0 _ _ _ _ _ _ _ _ _ _ _ _ _ q11 hq11 ?_
      show good 80 [.inr 0, .inr 1000, .inl q11.1, .inr 1000] [] [.inl f0, .inl q11.2.1, .inl x1, .inl q11.2.2.1, .inl q11.2.2.2.1, .inl f5, .inl f6] [g0, q11.2.2.2.2.1, q11.2.2.2.2.2, g3, g4]
      refine zv_ald hB zd263_80 rfl rfl rfl ?_
      refine zv_con hB zd263_81 rfl ?_
      refine zv_putf hB zd263_82 rfl rfl (fun h => by cases h) rfl ?_
      refine zv_ild hB zd263_85 rfl rfl ?_
      refine zv_zne hB zd263_86 rfl (fun hc12 => ?_) (fun hc12 => ?_)
      · rw [if_neg hc12] at h
        refine zv_ald hB zd263_94 rfl rfl rfl ?_
        refine zv_ald hB zd263_95 rfl rfl rfl ?_
        refine zv_getf hB zd263_96 rfl rfl (fun _ _ => ?_)
        refine zv_putf hB zd263_99 rfl rfl (fun h => by cases h) rfl ?_
        refine zv_ald hB zd263_102 rfl rfl rfl ?_
        refine zv_con hB zd263_103 rfl ?_
        refine zv_putf hB zd263_104 rfl rfl (fun h => by cases h) rfl ?_
        refine zv_con hB zd263_107 rfl ?_
        refine zv_ist hB zd263_108 rfl rfl rfl ?_
        obtain ⟨q15, hq15, h⟩ := zi_bind h
        refine zv_wk hB (L' := [.inr 0, .inr 1000, .inr 1000, .inl 0]) (F' := [.inl 0, .inl q11.2.1, .inl x1, .inl q11.2.2.1, .inl q11.2.2.2.1, .inl q11.2.2.1, .inl 0]) ⟨fun _ => rfl, fun (h : zv_is (.inr 1000)) => (Nat.lt_irrefl 1000 h).elim, fun (h : zv_is (.inr 1000)) => (Nat.lt_irrefl 1000 h).elim, fun _ => rfl, trivial⟩ ⟨fun _ => rfl, fun _ => rfl, fun _ => rfl, fun _ => rfl, fun _ => rfl, fun _ => rfl, fun _ => rfl, trivial⟩ ?_
        refine l1 _ _ _ _ _ _ _ _ _ _ _ _ _ q15 hq15 ?_
        show good 173 [.inr 0, .inr 1000, .inr 1000, .inr 1000] [] [.inl 0, .inl q11.2.1, .inl x1, .inl q11.2.2.1, .inl q11.2.2.2.1, .inl q11.2.2.1, .inl q15.1] [g0, q11.2.2.2.2.1, q11.2.2.2.2.2, q15.2.1, q15.2.2]
        refine zv_ald hB zd263_173 rfl rfl rfl ?_
        refine zv_getf hB zd263_174 rfl rfl (fun _ _ => ?_)
        have hw := Option.some.inj h
        subst hw
        exact hret _ _ _ _ _ zd263_177 (by trivial) ⟨rfl, rfl, rfl⟩
      · rw [if_pos hc12] at h
        refine zv_ald hB zd263_89 rfl rfl rfl ?_
        refine zv_getf hB zd263_90 rfl rfl (fun _ _ => ?_)
        have hw := Option.some.inj h
        subst hw
        exact hret _ _ _ _ _ zd263_93 (by trivial) ⟨rfl, rfl, rfl⟩
    · rw [if_pos hc3] at h
      refine zv_con hB zd263_18 rfl ?_
      have hw := Option.some.inj h
      subst hw
      exact hret _ _ _ _ _ zd263_19 (by trivial) ⟨rfl, rfl, rfl⟩
/-! M_laysNames ()V -/
-- names: 0 StarTalesModel('arg', 0), 1 (0, 8)(0, 12, 38)
-- fields: f0 = 0.nameMany_, f1 = 0.namesIn_; arrays: g0 = 1; out: [('f', 0), ('g', 0)]
abbrev zy_M_laysNames : zNL := (2, [(0, 12)], [(0, 12, 41, 0), (0, 12, 33, 1)], [(0, 12, 38, 1)], [(1, 0, 8, 0)])
theorem zyw_M_laysNames : zv_wf zy_M_laysNames = true := by decide +kernel
theorem zye_M_laysNames : zv_ek2 zy_M_laysNames = true := by decide +kernel
def zf_M_laysNames_l0_b (f1 : Int) (rec : Int → Int → (Int → Int) → Option (Int × (Int → Int))) (x1 : Int) (f0 : Int) (g0 : (Int → Int)) : Option (Int × (Int → Int)) := if x1 < 8 then ((zf_M_has f1 x1).bind fun r2 => (if r2 = 0 then (rec (zi_w (x1 + 1)) f0 g0) else (cond (zi_ix f0 8) (rec (zi_w (x1 + 1)) (zi_w (f0 + 1)) (zv_up g0 f0 x1)) none))) else (some (f0, g0))
def zf_M_laysNames_l0 (f1 : Int) : Nat → Int → Int → (Int → Int) → Option (Int × (Int → Int))
  | 0, _, _, _ => none
  | n + 1, x1, f0, g0 => zf_M_laysNames_l0_b f1 (zf_M_laysNames_l0 f1 n) x1 f0 g0
def zf_M_laysNames (f0 : Int) (f1 : Int) (g0 : (Int → Int)) : Option (Int × (Int → Int)) := (zf_M_laysNames_l0 f1 zi_fu 0 0 g0).bind fun q5 => (some (q5.1, q5.2))
theorem zd269_0 : decode zxm269.2.1 0 = .ok (.aload_n 0, 1) := by decide +kernel
theorem zd269_1 : decode zxm269.2.1 1 = .ok (.iconst 0, 1) := by decide +kernel
theorem zd269_2 : decode zxm269.2.1 2 = .ok (.putfield 357, 3) := by decide +kernel
theorem zd269_5 : decode zxm269.2.1 5 = .ok (.iconst 0, 1) := by decide +kernel
theorem zd269_6 : decode zxm269.2.1 6 = .ok (.istore_n 1, 1) := by decide +kernel
theorem zd269_7 : decode zxm269.2.1 7 = .ok (.iload_n 1, 1) := by decide +kernel
theorem zd269_8 : decode zxm269.2.1 8 = .ok (.bipush 8, 2) := by decide +kernel
theorem zd269_10 : decode zxm269.2.1 10 = .ok (.if_icmp .ge 43, 3) := by decide +kernel
theorem zd269_13 : decode zxm269.2.1 13 = .ok (.aload_n 0, 1) := by decide +kernel
theorem zd269_14 : decode zxm269.2.1 14 = .ok (.getfield 354, 3) := by decide +kernel
theorem zd269_17 : decode zxm269.2.1 17 = .ok (.iload_n 1, 1) := by decide +kernel
theorem zd269_18 : decode zxm269.2.1 18 = .ok (.invokestatic 138, 3) := by decide +kernel
theorem zd269_21 : decode zxm269.2.1 21 = .ok (.ifCond .ne 6, 3) := by decide +kernel
theorem zd269_24 : decode zxm269.2.1 24 = .ok (.goto 23, 3) := by decide +kernel
theorem zd269_27 : decode zxm269.2.1 27 = .ok (.aload_n 0, 1) := by decide +kernel
theorem zd269_28 : decode zxm269.2.1 28 = .ok (.getfield 77, 3) := by decide +kernel
theorem zd269_31 : decode zxm269.2.1 31 = .ok (.aload_n 0, 1) := by decide +kernel
theorem zd269_32 : decode zxm269.2.1 32 = .ok (.getfield 357, 3) := by decide +kernel
theorem zd269_35 : decode zxm269.2.1 35 = .ok (.iload_n 1, 1) := by decide +kernel
theorem zd269_36 : decode zxm269.2.1 36 = .ok (.iastore, 1) := by decide +kernel
theorem zd269_37 : decode zxm269.2.1 37 = .ok (.aload_n 0, 1) := by decide +kernel
theorem zd269_38 : decode zxm269.2.1 38 = .ok (.aload_n 0, 1) := by decide +kernel
theorem zd269_39 : decode zxm269.2.1 39 = .ok (.getfield 357, 3) := by decide +kernel
theorem zd269_42 : decode zxm269.2.1 42 = .ok (.iconst 1, 1) := by decide +kernel
theorem zd269_43 : decode zxm269.2.1 43 = .ok (.iadd, 1) := by decide +kernel
theorem zd269_44 : decode zxm269.2.1 44 = .ok (.putfield 357, 3) := by decide +kernel
theorem zd269_47 : decode zxm269.2.1 47 = .ok (.iinc 1 1, 3) := by decide +kernel
theorem zd269_50 : decode zxm269.2.1 50 = .ok (.goto (-43), 3) := by decide +kernel
theorem zd269_53 : decode zxm269.2.1 53 = .ok (.return_, 1) := by decide +kernel
theorem zt_M_laysNames {f0 : Int} {f1 : Int} {g0 : (Int → Int)} {o : Int × (Int → Int)} (h : zf_M_laysNames f0 f1 g0 = some o) : zv_Fn z_TB z_cl z_KX zy_M_laysNames zxm269 (1, 60) [.inr 0] [.inl f0, .inl f1] [g0] none [.inl o.1, .inl f1] [o.2] := zv_meth (K := (z_KF13, z_KC13, z_KL13, z_KT13, [], [], [], none)) (FT := z_FT) (MT := z_MT) (n := 1) zxp269 (z_ks13 _ (fun _ h => List.mem_cons_of_mem _ h) _ _ _ _ (fun j r h _ => by cases h)) (fun _ _ => zs_KX_p) zyw_M_laysNames (fun va F G h => by obtain ⟨rfl, _⟩ := h; rfl) (fun va F G h => by obtain ⟨rfl, _⟩ := h; rfl) rfl fun good va F G hB hret hvret hP => by
  obtain ⟨rfl, rfl, rfl⟩ := hP
  have l0 : ∀ (n : Nat) (x1 : Int) (f0 : Int) (g0 : (Int → Int)) (q : Int × (Int → Int)), zf_M_laysNames_l0 f1 n x1 f0 g0 = some q → (good 53 [.inr 1000, .inr 1000] [] [.inl q.1, .inl f1] [q.2]) → good 7 [.inr 0, .inl x1] [] [.inl f0, .inl f1] [g0] := by
    intro n
    induction n with
    | zero => intro x1 f0 g0 q h; exact absurd (show none = some q from h) (fun h => by cases h)
    | succ n ih =>
      intro x1 f0 g0 q h hK
      replace h : zf_M_laysNames_l0_b f1 (zf_M_laysNames_l0 f1 n) x1 f0 g0 = some q := h
      unfold zf_M_laysNames_l0_b at h
      refine zv_ild hB zd269_7 rfl rfl ?_
      refine zv_con hB zd269_8 rfl ?_
      refine zv_cge hB zd269_10 rfl (fun hc1 => ?_) (fun hc1 => ?_)
      · rw [if_neg (Int.not_lt.mpr hc1)] at h
        have hq := Option.some.inj h
        subst hq
        refine zv_wk hB (L' := [.inr 1000, .inr 1000]) (F' := [.inl f0, .inl f1]) ⟨fun (h : zv_is (.inr 1000)) => (Nat.lt_irrefl 1000 h).elim, fun (h : zv_is (.inr 1000)) => (Nat.lt_irrefl 1000 h).elim, trivial⟩ ⟨fun _ => rfl, fun _ => rfl, trivial⟩ ?_
        exact hK
      · rw [if_pos hc1] at h
        refine zv_ald hB zd269_13 rfl rfl rfl ?_
        refine zv_getf hB zd269_14 rfl rfl (fun _ _ => ?_)
        refine zv_ild hB zd269_17 rfl rfl ?_
        obtain ⟨r2, hr2, h⟩ := zi_bind h
        refine zv_cs hB (zv_emq (va2 := [.inl f1, .inl x1]) (F := [.inl f0, .inl f1]) (F' := [.inl f0, .inl f1]) (G := [g0]) (G' := [g0]) (ρ := []) (φ := []) (ψ := []) [none, none] [none] zyw_M_has zyw_M_laysNames zye_M_laysNames (by decide +kernel) (zt_M_has hr2) trivial trivial rfl rfl rfl rfl rfl rfl rfl) zd269_18 zxt204 rfl (by decide) (by decide) rfl ?_
        refine zv_zne hB zd269_21 rfl (fun hc3 => ?_) (fun hc3 => ?_)
        · rw [if_neg hc3] at h
          refine zv_ald hB zd269_27 rfl rfl rfl ?_
          refine zv_getr hB zd269_28 rfl ?_
          refine zv_ald hB zd269_31 rfl rfl rfl ?_
          refine zv_getf hB zd269_32 rfl rfl (fun _ _ => ?_)
          refine zv_ild hB zd269_35 rfl rfl ?_
          obtain ⟨c4, h⟩ := zi_if h
          refine zv_iast hB zd269_36 rfl rfl (zi_ix_ok c4).1 (zi_ix_ok c4).2 ?_
          refine zv_ald hB zd269_37 rfl rfl rfl ?_
          refine zv_ald hB zd269_38 rfl rfl rfl ?_
          refine zv_getf hB zd269_39 rfl rfl (fun _ _ => ?_)
          refine zv_con hB zd269_42 rfl ?_
          refine zv_addw hB zd269_43 ?_
          refine zv_putf hB zd269_44 rfl rfl (fun h => by cases h) rfl ?_
          refine zv_iincw hB zd269_47 rfl rfl ?_
          refine zv_goto hB zd269_50 rfl ?_
          exact ih _ _ _ q h hK
        · rw [if_pos hc3] at h
          refine zv_goto hB zd269_24 rfl ?_
          refine zv_iincw hB zd269_47 rfl rfl ?_
          refine zv_goto hB zd269_50 rfl ?_
          exact ih _ _ _ q h hK
  unfold zf_M_laysNames at h
  refine zv_ald hB zd269_0 rfl rfl rfl ?_
  refine zv_con hB zd269_1 rfl ?_
  refine zv_putf hB zd269_2 rfl rfl (fun h => by cases h) rfl ?_
  refine zv_con hB zd269_5 rfl ?_
  refine zv_ist hB zd269_6 rfl rfl rfl ?_
  obtain ⟨q5, hq5, h⟩ := zi_bind h
  refine l0 _ _ _ _ q5 hq5 ?_
  show good 53 [.inr 1000, .inr 1000] [] [.inl q5.1, .inl f1] [q5.2]
  have hw := Option.some.inj h
  subst hw
  exact hvret _ _ _ _ zd269_53 trivial ⟨rfl, rfl, rfl⟩
end
section
/-! Methods as functions, and that they do what these do. -/
/-! M_canBe (II)Z -/
-- names: 0 StarTalesModel('arg', 0), 1 (0, 8)(0, 12, 39), 2 (0, 12)(0, 12, 34), 3 (0, 8)(0, 12, 38), 4 (0, 12)(0, 12, 35), 5 (0, 24)(0, 12, 28)
-- fields: f0 = 0.taleLines_; arrays: g0 = 1, g1 = 2, g2 = 3, g3 = 4, g4 = 5; out: [('ret', None)]
abbrev zy_M_canBe : zNL := (6, [(0, 12)], [(0, 12, 31, 0)], [(0, 12, 39, 1), (0, 12, 34, 2), (0, 12, 38, 3), (0, 12, 35, 4), (0, 12, 28, 5)], [(1, 0, 8, 0), (2, 0, 12, 1), (3, 0, 8, 2), (4, 0, 12, 3), (5, 0, 24, 4)])
theorem zyw_M_canBe : zv_wf zy_M_canBe = true := by decide +kernel
theorem zye_M_canBe : zv_ek2 zy_M_canBe = true := by decide +kernel
def zf_M_canBe_l1_b (x1 : Int) (x2 : Int) (x3 : Int) (f0 : Int) (g0 : (Int → Int)) (g1 : (Int → Int)) (g2 : (Int → Int)) (g3 : (Int → Int)) (g4 : (Int → Int)) (rec : Int → Option (((Unit) ⊕ (Int)))) (x4 : Int) : Option (((Unit) ⊕ (Int))) := if x4 < f0 then (cond (zi_ix x4 12) (cond (zi_ix x3 8) (if (g1 x4) = (g2 x3) then (cond (zi_ix x1 8) (if (g3 x4) = (g2 x1) then (cond (zi_ix x2 24) ((zf_M_has (g4 x2) (g0 x3)).bind fun r21 => (if r21 = 0 then (some (.inr 0)) else (rec (zi_w (x4 + 1))))) none) else (if (g1 x4) = (g2 x1) then (if (g3 x4) = (g2 x3) then (cond (zi_ix x2 24) ((zf_M_has (g4 x2) (g0 x3)).bind fun r29 => (if r29 = 0 then (some (.inr 0)) else (rec (zi_w (x4 + 1))))) none) else (rec (zi_w (x4 + 1)))) else (rec (zi_w (x4 + 1))))) none) else (cond (zi_ix x1 8) (if (g1 x4) = (g2 x1) then (if (g3 x4) = (g2 x3) then (cond (zi_ix x2 24) ((zf_M_has (g4 x2) (g0 x3)).bind fun r15 => (if r15 = 0 then (some (.inr 0)) else (rec (zi_w (x4 + 1))))) none) else (rec (zi_w (x4 + 1)))) else (rec (zi_w (x4 + 1)))) none)) none) none) else (some (.inl ()))
def zf_M_canBe_l1 (x1 : Int) (x2 : Int) (x3 : Int) (f0 : Int) (g0 : (Int → Int)) (g1 : (Int → Int)) (g2 : (Int → Int)) (g3 : (Int → Int)) (g4 : (Int → Int)) : Nat → Int → Option (((Unit) ⊕ (Int)))
  | 0, _ => none
  | n + 1, x4 => zf_M_canBe_l1_b x1 x2 x3 f0 g0 g1 g2 g3 g4 (zf_M_canBe_l1 x1 x2 x3 f0 g0 g1 g2 g3 g4 n) x4
def zf_M_canBe_l0_b (x1 : Int) (x2 : Int) (f0 : Int) (g0 : (Int → Int)) (g1 : (Int → Int)) (g2 : (Int → Int)) (g3 : (Int → Int)) (g4 : (Int → Int)) (rec : Int → Option (((Unit) ⊕ (Int)))) (x3 : Int) : Option (((Unit) ⊕ (Int))) := if x3 < x1 then (cond (zi_ix x3 8) (if (g0 x3) = x2 then (some (.inr 0)) else ((zf_M_canBe_l1 x1 x2 x3 f0 g0 g1 g2 g3 g4 zi_fu 0).bind fun q31 => Sum.elim (fun e32 => (rec (zi_w (x3 + 1)))) (fun w33 => some (.inr w33)) q31)) none) else (some (.inl ()))
def zf_M_canBe_l0 (x1 : Int) (x2 : Int) (f0 : Int) (g0 : (Int → Int)) (g1 : (Int → Int)) (g2 : (Int → Int)) (g3 : (Int → Int)) (g4 : (Int → Int)) : Nat → Int → Option (((Unit) ⊕ (Int)))
  | 0, _ => none
  | n + 1, x3 => zf_M_canBe_l0_b x1 x2 f0 g0 g1 g2 g3 g4 (zf_M_canBe_l0 x1 x2 f0 g0 g1 g2 g3 g4 n) x3
def zf_M_canBe (x1 : Int) (x2 : Int) (f0 : Int) (g0 : (Int → Int)) (g1 : (Int → Int)) (g2 : (Int → Int)) (g3 : (Int → Int)) (g4 : (Int → Int)) : Option (Int) := (zf_M_canBe_l0 x1 x2 f0 g0 g1 g2 g3 g4 zi_fu 0).bind fun q34 => Sum.elim (fun e35 => (some 1)) (fun w36 => some w36) q34
theorem zd270_0 : decode zxm270.2.1 0 = .ok (.iconst 0, 1) := by decide +kernel
theorem zd270_1 : decode zxm270.2.1 1 = .ok (.istore_n 3, 1) := by decide +kernel
theorem zd270_2 : decode zxm270.2.1 2 = .ok (.iload_n 3, 1) := by decide +kernel
theorem zd270_3 : decode zxm270.2.1 3 = .ok (.iload_n 1, 1) := by decide +kernel
theorem zd270_4 : decode zxm270.2.1 4 = .ok (.if_icmp .ge 135, 3) := by decide +kernel
theorem zd270_7 : decode zxm270.2.1 7 = .ok (.aload_n 0, 1) := by decide +kernel
theorem zd270_8 : decode zxm270.2.1 8 = .ok (.getfield 80, 3) := by decide +kernel
theorem zd270_11 : decode zxm270.2.1 11 = .ok (.iload_n 3, 1) := by decide +kernel
theorem zd270_12 : decode zxm270.2.1 12 = .ok (.iaload, 1) := by decide +kernel
theorem zd270_13 : decode zxm270.2.1 13 = .ok (.iload_n 2, 1) := by decide +kernel
theorem zd270_14 : decode zxm270.2.1 14 = .ok (.if_icmp .ne 5, 3) := by decide +kernel
theorem zd270_17 : decode zxm270.2.1 17 = .ok (.iconst 0, 1) := by decide +kernel
theorem zd270_18 : decode zxm270.2.1 18 = .ok (.ireturn, 1) := by decide +kernel
theorem zd270_19 : decode zxm270.2.1 19 = .ok (.iconst 0, 1) := by decide +kernel
theorem zd270_20 : decode zxm270.2.1 20 = .ok (.istore 4, 2) := by decide +kernel
theorem zd270_22 : decode zxm270.2.1 22 = .ok (.iload 4, 2) := by decide +kernel
theorem zd270_24 : decode zxm270.2.1 24 = .ok (.aload_n 0, 1) := by decide +kernel
theorem zd270_25 : decode zxm270.2.1 25 = .ok (.getfield 351, 3) := by decide +kernel
theorem zd270_28 : decode zxm270.2.1 28 = .ok (.if_icmp .ge 105, 3) := by decide +kernel
theorem zd270_31 : decode zxm270.2.1 31 = .ok (.aload_n 0, 1) := by decide +kernel
theorem zd270_32 : decode zxm270.2.1 32 = .ok (.getfield 65, 3) := by decide +kernel
theorem zd270_35 : decode zxm270.2.1 35 = .ok (.iload 4, 2) := by decide +kernel
theorem zd270_37 : decode zxm270.2.1 37 = .ok (.iaload, 1) := by decide +kernel
theorem zd270_38 : decode zxm270.2.1 38 = .ok (.aload_n 0, 1) := by decide +kernel
theorem zd270_39 : decode zxm270.2.1 39 = .ok (.getfield 77, 3) := by decide +kernel
theorem zd270_42 : decode zxm270.2.1 42 = .ok (.iload_n 3, 1) := by decide +kernel
theorem zd270_43 : decode zxm270.2.1 43 = .ok (.iaload, 1) := by decide +kernel
theorem zd270_44 : decode zxm270.2.1 44 = .ok (.if_icmp .ne 19, 3) := by decide +kernel
theorem zd270_47 : decode zxm270.2.1 47 = .ok (.aload_n 0, 1) := by decide +kernel
theorem zd270_48 : decode zxm270.2.1 48 = .ok (.getfield 68, 3) := by decide +kernel
theorem zd270_51 : decode zxm270.2.1 51 = .ok (.iload 4, 2) := by decide +kernel
theorem zd270_53 : decode zxm270.2.1 53 = .ok (.iaload, 1) := by decide +kernel
theorem zd270_54 : decode zxm270.2.1 54 = .ok (.aload_n 0, 1) := by decide +kernel
theorem zd270_55 : decode zxm270.2.1 55 = .ok (.getfield 77, 3) := by decide +kernel
theorem zd270_58 : decode zxm270.2.1 58 = .ok (.iload_n 1, 1) := by decide +kernel
theorem zd270_59 : decode zxm270.2.1 59 = .ok (.iaload, 1) := by decide +kernel
theorem zd270_60 : decode zxm270.2.1 60 = .ok (.if_icmp .eq 35, 3) := by decide +kernel
theorem zd270_63 : decode zxm270.2.1 63 = .ok (.aload_n 0, 1) := by decide +kernel
theorem zd270_64 : decode zxm270.2.1 64 = .ok (.getfield 65, 3) := by decide +kernel
theorem zd270_67 : decode zxm270.2.1 67 = .ok (.iload 4, 2) := by decide +kernel
theorem zd270_69 : decode zxm270.2.1 69 = .ok (.iaload, 1) := by decide +kernel
theorem zd270_70 : decode zxm270.2.1 70 = .ok (.aload_n 0, 1) := by decide +kernel
theorem zd270_71 : decode zxm270.2.1 71 = .ok (.getfield 77, 3) := by decide +kernel
theorem zd270_74 : decode zxm270.2.1 74 = .ok (.iload_n 1, 1) := by decide +kernel
theorem zd270_75 : decode zxm270.2.1 75 = .ok (.iaload, 1) := by decide +kernel
theorem zd270_76 : decode zxm270.2.1 76 = .ok (.if_icmp .ne 23, 3) := by decide +kernel
theorem zd270_79 : decode zxm270.2.1 79 = .ok (.aload_n 0, 1) := by decide +kernel
theorem zd270_80 : decode zxm270.2.1 80 = .ok (.getfield 68, 3) := by decide +kernel
theorem zd270_83 : decode zxm270.2.1 83 = .ok (.iload 4, 2) := by decide +kernel
theorem zd270_85 : decode zxm270.2.1 85 = .ok (.iaload, 1) := by decide +kernel
theorem zd270_86 : decode zxm270.2.1 86 = .ok (.aload_n 0, 1) := by decide +kernel
theorem zd270_87 : decode zxm270.2.1 87 = .ok (.getfield 77, 3) := by decide +kernel
theorem zd270_90 : decode zxm270.2.1 90 = .ok (.iload_n 3, 1) := by decide +kernel
theorem zd270_91 : decode zxm270.2.1 91 = .ok (.iaload, 1) := by decide +kernel
theorem zd270_92 : decode zxm270.2.1 92 = .ok (.if_icmp .ne 7, 3) := by decide +kernel
theorem zd270_95 : decode zxm270.2.1 95 = .ok (.iconst 1, 1) := by decide +kernel
theorem zd270_96 : decode zxm270.2.1 96 = .ok (.goto 4, 3) := by decide +kernel
theorem zd270_99 : decode zxm270.2.1 99 = .ok (.iconst 0, 1) := by decide +kernel
theorem zd270_100 : decode zxm270.2.1 100 = .ok (.istore 5, 2) := by decide +kernel
theorem zd270_102 : decode zxm270.2.1 102 = .ok (.iload 5, 2) := by decide +kernel
theorem zd270_104 : decode zxm270.2.1 104 = .ok (.ifCond .eq 23, 3) := by decide +kernel
theorem zd270_107 : decode zxm270.2.1 107 = .ok (.aload_n 0, 1) := by decide +kernel
theorem zd270_108 : decode zxm270.2.1 108 = .ok (.getfield 62, 3) := by decide +kernel
theorem zd270_111 : decode zxm270.2.1 111 = .ok (.iload_n 2, 1) := by decide +kernel
theorem zd270_112 : decode zxm270.2.1 112 = .ok (.iaload, 1) := by decide +kernel
theorem zd270_113 : decode zxm270.2.1 113 = .ok (.aload_n 0, 1) := by decide +kernel
theorem zd270_114 : decode zxm270.2.1 114 = .ok (.getfield 80, 3) := by decide +kernel
theorem zd270_117 : decode zxm270.2.1 117 = .ok (.iload_n 3, 1) := by decide +kernel
theorem zd270_118 : decode zxm270.2.1 118 = .ok (.iaload, 1) := by decide +kernel
theorem zd270_119 : decode zxm270.2.1 119 = .ok (.invokestatic 138, 3) := by decide +kernel
theorem zd270_122 : decode zxm270.2.1 122 = .ok (.ifCond .ne 5, 3) := by decide +kernel
theorem zd270_125 : decode zxm270.2.1 125 = .ok (.iconst 0, 1) := by decide +kernel
theorem zd270_126 : decode zxm270.2.1 126 = .ok (.ireturn, 1) := by decide +kernel
theorem zd270_127 : decode zxm270.2.1 127 = .ok (.iinc 4 1, 3) := by decide +kernel
theorem zd270_130 : decode zxm270.2.1 130 = .ok (.goto (-108), 3) := by decide +kernel
theorem zd270_133 : decode zxm270.2.1 133 = .ok (.iinc 3 1, 3) := by decide +kernel
theorem zd270_136 : decode zxm270.2.1 136 = .ok (.goto (-134), 3) := by decide +kernel
theorem zd270_139 : decode zxm270.2.1 139 = .ok (.iconst 1, 1) := by decide +kernel
theorem zd270_140 : decode zxm270.2.1 140 = .ok (.ireturn, 1) := by decide +kernel
theorem zt_M_canBe {x1 : Int} {x2 : Int} {f0 : Int} {g0 : (Int → Int)} {g1 : (Int → Int)} {g2 : (Int → Int)} {g3 : (Int → Int)} {g4 : (Int → Int)} {o : Int} (h : zf_M_canBe x1 x2 f0 g0 g1 g2 g3 g4 = some o) : zv_Fn z_TB z_cl z_KX zy_M_canBe zxm270 (1, 60) [.inr 0, .inl x1, .inl x2] [.inl f0] [g0, g1, g2, g3, g4] (some o) [.inl f0] [g0, g1, g2, g3, g4] := zv_meth (K := (z_KF13, z_KC13, z_KL13, z_KT13, [], [], [], none)) (FT := z_FT) (MT := z_MT) (n := 3) zxp270 (z_ks13 _ (fun _ h => List.mem_cons_of_mem _ h) _ _ _ _ (fun j r h _ => by cases h)) (fun _ _ => zs_KX_p) zyw_M_canBe (fun va F G h => by obtain ⟨rfl, _⟩ := h; rfl) (fun va F G h => by obtain ⟨rfl, _⟩ := h; rfl) rfl fun good va F G hB hret hvret hP => by
  obtain ⟨rfl, rfl, rfl⟩ := hP
  have l1 : ∀ (n : Nat) (x1 : Int) (x2 : Int) (x3 : Int) (x4 : Int) (q : ((Unit) ⊕ (Int))), zf_M_canBe_l1 x1 x2 x3 f0 g0 g1 g2 g3 g4 n x4 = some q → (Sum.elim (fun e : Unit => good 133 [.inr 0, .inl x1, .inl x2, .inl x3, .inr 1000, .inr 1000] [] [.inl f0] [g0, g1, g2, g3, g4]) (fun w : Int => w = o) q) → good 22 [.inr 0, .inl x1, .inl x2, .inl x3, .inl x4, .inr 1000] [] [.inl f0] [g0, g1, g2, g3, g4] := by
    intro n
    induction n with
    | zero => intro x1 x2 x3 x4 q h; exact absurd (show none = some q from h) (fun h => by cases h)
    | succ n ih =>
      intro x1 x2 x3 x4 q h hK
      replace h : zf_M_canBe_l1_b x1 x2 x3 f0 g0 g1 g2 g3 g4 (zf_M_canBe_l1 x1 x2 x3 f0 g0 g1 g2 g3 g4 n) x4 = some q := h
      unfold zf_M_canBe_l1_b at h
      refine zv_ild hB zd270_22 rfl rfl ?_
      refine zv_ald hB zd270_24 rfl rfl rfl ?_
      refine zv_getf hB zd270_25 rfl rfl (fun _ _ => ?_)
      refine zv_cge hB zd270_28 rfl (fun hc4 => ?_) (fun hc4 => ?_)
      · rw [if_neg (Int.not_lt.mpr hc4)] at h
        have hq := Option.some.inj h
        subst hq
        refine zv_wk hB (L' := [.inr 0, .inl x1, .inl x2, .inl x3, .inr 1000, .inr 1000]) (F' := [.inl f0]) ⟨fun _ => rfl, fun _ => rfl, fun _ => rfl, fun _ => rfl, fun (h : zv_is (.inr 1000)) => (Nat.lt_irrefl 1000 h).elim, fun (h : zv_is (.inr 1000)) => (Nat.lt_irrefl 1000 h).elim, trivial⟩ ⟨fun _ => rfl, trivial⟩ ?_
        exact hK
      · rw [if_pos hc4] at h
        refine zv_ald hB zd270_31 rfl rfl rfl ?_
        refine zv_getr hB zd270_32 rfl ?_
        refine zv_ild hB zd270_35 rfl rfl ?_
        obtain ⟨c5, h⟩ := zi_if h
        refine zv_iald hB zd270_37 rfl rfl (zi_ix_ok c5).1 (zi_ix_ok c5).2 (fun _ _ => ?_)
        refine zv_ald hB zd270_38 rfl rfl rfl ?_
        refine zv_getr hB zd270_39 rfl ?_
        refine zv_ild hB zd270_42 rfl rfl ?_
        obtain ⟨c6, h⟩ := zi_if h
        refine zv_iald hB zd270_43 rfl rfl (zi_ix_ok c6).1 (zi_ix_ok c6).2 (fun _ _ => ?_)
        refine zv_cne hB zd270_44 rfl (fun hc7 => ?_) (fun hc7 => ?_)
        · rw [if_neg hc7] at h
          refine zv_ald hB zd270_63 rfl rfl rfl ?_
          refine zv_getr hB zd270_64 rfl ?_
          refine zv_ild hB zd270_67 rfl rfl ?_
          refine zv_iald hB zd270_69 rfl rfl (zi_ix_ok c5).1 (zi_ix_ok c5).2 (fun _ _ => ?_)
          refine zv_ald hB zd270_70 rfl rfl rfl ?_
          refine zv_getr hB zd270_71 rfl ?_
          refine zv_ild hB zd270_74 rfl rfl ?_
          obtain ⟨c8, h⟩ := zi_if h
          refine zv_iald hB zd270_75 rfl rfl (zi_ix_ok c8).1 (zi_ix_ok c8).2 (fun _ _ => ?_)
          refine zv_cne hB zd270_76 rfl (fun hc9 => ?_) (fun hc9 => ?_)
          · rw [if_neg hc9] at h
            refine zv_con hB zd270_99 rfl ?_
            refine zv_ist hB zd270_100 rfl rfl rfl ?_
            refine zv_ild hB zd270_102 rfl rfl ?_
            refine zv_zeq hB zd270_104 rfl (fun _ => ?_) (fun hc => absurd hc (by decide))
            refine zv_iincw hB zd270_127 rfl rfl ?_
            refine zv_goto hB zd270_130 rfl ?_
            refine zv_wk hB (L' := [.inr 0, .inl x1, .inl x2, .inl x3, .inl (zi_w (x4 + 1)), .inr 1000]) (F' := [.inl f0]) ⟨fun _ => rfl, fun _ => rfl, fun _ => rfl, fun _ => rfl, fun _ => rfl, fun (h : zv_is (.inr 1000)) => (Nat.lt_irrefl 1000 h).elim, trivial⟩ ⟨fun _ => rfl, trivial⟩ ?_
            exact ih _ _ _ _ q h hK
          · rw [if_pos hc9] at h
            refine zv_ald hB zd270_79 rfl rfl rfl ?_
            refine zv_getr hB zd270_80 rfl ?_
            refine zv_ild hB zd270_83 rfl rfl ?_
            refine zv_iald hB zd270_85 rfl rfl (zi_ix_ok c5).1 (zi_ix_ok c5).2 (fun _ _ => ?_)
            refine zv_ald hB zd270_86 rfl rfl rfl ?_
            refine zv_getr hB zd270_87 rfl ?_
            refine zv_ild hB zd270_90 rfl rfl ?_
            refine zv_iald hB zd270_91 rfl rfl (zi_ix_ok c6).1 (zi_ix_ok c6).2 (fun _ _ => ?_)
            refine zv_cne hB zd270_92 rfl (fun hc11 => ?_) (fun hc11 => ?_)
            · rw [if_neg hc11] at h
              refine zv_con hB zd270_99 rfl ?_
              refine zv_ist hB zd270_100 rfl rfl rfl ?_
              refine zv_ild hB zd270_102 rfl rfl ?_
              refine zv_zeq hB zd270_104 rfl (fun _ => ?_) (fun hc => absurd hc (by decide))
              refine zv_iincw hB zd270_127 rfl rfl ?_
              refine zv_goto hB zd270_130 rfl ?_
              refine zv_wk hB (L' := [.inr 0, .inl x1, .inl x2, .inl x3, .inl (zi_w (x4 + 1)), .inr 1000]) (F' := [.inl f0]) ⟨fun _ => rfl, fun _ => rfl, fun _ => rfl, fun _ => rfl, fun _ => rfl, fun (h : zv_is (.inr 1000)) => (Nat.lt_irrefl 1000 h).elim, trivial⟩ ⟨fun _ => rfl, trivial⟩ ?_
              exact ih _ _ _ _ q h hK
            · rw [if_pos hc11] at h
              refine zv_con hB zd270_95 rfl ?_
              refine zv_goto hB zd270_96 rfl ?_
              refine zv_ist hB zd270_100 rfl rfl rfl ?_
              refine zv_ild hB zd270_102 rfl rfl ?_
              refine zv_zeq hB zd270_104 rfl (fun hc => absurd hc (by decide)) (fun _ => ?_)
              refine zv_ald hB zd270_107 rfl rfl rfl ?_
              refine zv_getr hB zd270_108 rfl ?_
              refine zv_ild hB zd270_111 rfl rfl ?_
              obtain ⟨c14, h⟩ := zi_if h
              refine zv_iald hB zd270_112 rfl rfl (zi_ix_ok c14).1 (zi_ix_ok c14).2 (fun _ _ => ?_)
              refine zv_ald hB zd270_113 rfl rfl rfl ?_
              refine zv_getr hB zd270_114 rfl ?_
              refine zv_ild hB zd270_117 rfl rfl ?_
              refine zv_iald hB zd270_118 rfl rfl (zi_ix_ok c6).1 (zi_ix_ok c6).2 (fun _ _ => ?_)
              obtain ⟨r15, hr15, h⟩ := zi_bind h
              refine zv_cs hB (zv_emq (va2 := [.inl (g4 x2), .inl (g0 x3)]) (F := [.inl f0]) (F' := [.inl f0]) (G := [g0, g1, g2, g3, g4]) (G' := [g0, g1, g2, g3, g4]) (ρ := []) (φ := []) (ψ := []) [none] [none, none, none, none, none] zyw_M_has zyw_M_canBe zye_M_canBe (by decide +kernel) (zt_M_has hr15) trivial trivial rfl rfl rfl rfl rfl rfl rfl) zd270_119 zxt204 rfl (by decide) (by decide) rfl ?_
              refine zv_zne hB zd270_122 rfl (fun hc16 => ?_) (fun hc16 => ?_)
              · rw [if_neg hc16] at h
                refine zv_iincw hB zd270_127 rfl rfl ?_
                refine zv_goto hB zd270_130 rfl ?_
                refine zv_wk hB (L' := [.inr 0, .inl x1, .inl x2, .inl x3, .inl (zi_w (x4 + 1)), .inr 1000]) (F' := [.inl f0]) ⟨fun _ => rfl, fun _ => rfl, fun _ => rfl, fun _ => rfl, fun _ => rfl, fun (h : zv_is (.inr 1000)) => (Nat.lt_irrefl 1000 h).elim, trivial⟩ ⟨fun _ => rfl, trivial⟩ ?_
                exact ih _ _ _ _ q h hK
              · rw [if_pos hc16] at h
                refine zv_con hB zd270_125 rfl ?_
                have hw : 0 = o := zi_rk (Option.some.inj h) hK
                subst hw
                exact hret _ _ _ _ _ zd270_126 (by constructor <;> decide) ⟨rfl, rfl, rfl⟩
        · rw [if_pos hc7] at h
          refine zv_ald hB zd270_47 rfl rfl rfl ?_
          refine zv_getr hB zd270_48 rfl ?_
          refine zv_ild hB zd270_51 rfl rfl ?_
          refine zv_iald hB zd270_53 rfl rfl (zi_ix_ok c5).1 (zi_ix_ok c5).2 (fun _ _ => ?_)
          refine zv_ald hB zd270_54 rfl rfl rfl ?_
          refine zv_getr hB zd270_55 rfl ?_
          refine zv_ild hB zd270_58 rfl rfl ?_
          obtain ⟨c17, h⟩ := zi_if h
          refine zv_iald hB zd270_59 rfl rfl (zi_ix_ok c17).1 (zi_ix_ok c17).2 (fun _ _ => ?_)
          refine zv_ceq hB zd270_60 rfl (fun hc18 => ?_) (fun hc18 => ?_)
          · rw [if_pos hc18] at h
            refine zv_con hB zd270_95 rfl ?_
            refine zv_goto hB zd270_96 rfl ?_
            refine zv_ist hB zd270_100 rfl rfl rfl ?_
            refine zv_ild hB zd270_102 rfl rfl ?_
            refine zv_zeq hB zd270_104 rfl (fun hc => absurd hc (by decide)) (fun _ => ?_)
            refine zv_ald hB zd270_107 rfl rfl rfl ?_
            refine zv_getr hB zd270_108 rfl ?_
            refine zv_ild hB zd270_111 rfl rfl ?_
            obtain ⟨c20, h⟩ := zi_if h
            refine zv_iald hB zd270_112 rfl rfl (zi_ix_ok c20).1 (zi_ix_ok c20).2 (fun _ _ => ?_)
            refine zv_ald hB zd270_113 rfl rfl rfl ?_
            refine zv_getr hB zd270_114 rfl ?_
            refine zv_ild hB zd270_117 rfl rfl ?_
            refine zv_iald hB zd270_118 rfl rfl (zi_ix_ok c6).1 (zi_ix_ok c6).2 (fun _ _ => ?_)
            obtain ⟨r21, hr21, h⟩ := zi_bind h
            refine zv_cs hB (zv_emq (va2 := [.inl (g4 x2), .inl (g0 x3)]) (F := [.inl f0]) (F' := [.inl f0]) (G := [g0, g1, g2, g3, g4]) (G' := [g0, g1, g2, g3, g4]) (ρ := []) (φ := []) (ψ := []) [none] [none, none, none, none, none] zyw_M_has zyw_M_canBe zye_M_canBe (by decide +kernel) (zt_M_has hr21) trivial trivial rfl rfl rfl rfl rfl rfl rfl) zd270_119 zxt204 rfl (by decide) (by decide) rfl ?_
            refine zv_zne hB zd270_122 rfl (fun hc22 => ?_) (fun hc22 => ?_)
            · rw [if_neg hc22] at h
              refine zv_iincw hB zd270_127 rfl rfl ?_
              refine zv_goto hB zd270_130 rfl ?_
              refine zv_wk hB (L' := [.inr 0, .inl x1, .inl x2, .inl x3, .inl (zi_w (x4 + 1)), .inr 1000]) (F' := [.inl f0]) ⟨fun _ => rfl, fun _ => rfl, fun _ => rfl, fun _ => rfl, fun _ => rfl, fun (h : zv_is (.inr 1000)) => (Nat.lt_irrefl 1000 h).elim, trivial⟩ ⟨fun _ => rfl, trivial⟩ ?_
              exact ih _ _ _ _ q h hK
            · rw [if_pos hc22] at h
              refine zv_con hB zd270_125 rfl ?_
              have hw : 0 = o := zi_rk (Option.some.inj h) hK
              subst hw
              exact hret _ _ _ _ _ zd270_126 (by constructor <;> decide) ⟨rfl, rfl, rfl⟩
          · rw [if_neg hc18] at h
            refine zv_ald hB zd270_63 rfl rfl rfl ?_
            refine zv_getr hB zd270_64 rfl ?_
            refine zv_ild hB zd270_67 rfl rfl ?_
            refine zv_iald hB zd270_69 rfl rfl (zi_ix_ok c5).1 (zi_ix_ok c5).2 (fun _ _ => ?_)
            refine zv_ald hB zd270_70 rfl rfl rfl ?_
            refine zv_getr hB zd270_71 rfl ?_
            refine zv_ild hB zd270_74 rfl rfl ?_
            refine zv_iald hB zd270_75 rfl rfl (zi_ix_ok c17).1 (zi_ix_ok c17).2 (fun _ _ => ?_)
            refine zv_cne hB zd270_76 rfl (fun hc23 => ?_) (fun hc23 => ?_)
            · rw [if_neg hc23] at h
              refine zv_con hB zd270_99 rfl ?_
              refine zv_ist hB zd270_100 rfl rfl rfl ?_
              refine zv_ild hB zd270_102 rfl rfl ?_
              refine zv_zeq hB zd270_104 rfl (fun _ => ?_) (fun hc => absurd hc (by decide))
              refine zv_iincw hB zd270_127 rfl rfl ?_
              refine zv_goto hB zd270_130 rfl ?_
              refine zv_wk hB (L' := [.inr 0, .inl x1, .inl x2, .inl x3, .inl (zi_w (x4 + 1)), .inr 1000]) (F' := [.inl f0]) ⟨fun _ => rfl, fun _ => rfl, fun _ => rfl, fun _ => rfl, fun _ => rfl, fun (h : zv_is (.inr 1000)) => (Nat.lt_irrefl 1000 h).elim, trivial⟩ ⟨fun _ => rfl, trivial⟩ ?_
              exact ih _ _ _ _ q h hK
            · rw [if_pos hc23] at h
              refine zv_ald hB zd270_79 rfl rfl rfl ?_
              refine zv_getr hB zd270_80 rfl ?_
              refine zv_ild hB zd270_83 rfl rfl ?_
              refine zv_iald hB zd270_85 rfl rfl (zi_ix_ok c5).1 (zi_ix_ok c5).2 (fun _ _ => ?_)
              refine zv_ald hB zd270_86 rfl rfl rfl ?_
              refine zv_getr hB zd270_87 rfl ?_
              refine zv_ild hB zd270_90 rfl rfl ?_
              refine zv_iald hB zd270_91 rfl rfl (zi_ix_ok c6).1 (zi_ix_ok c6).2 (fun _ _ => ?_)
              refine zv_cne hB zd270_92 rfl (fun hc25 => ?_) (fun hc25 => ?_)
              · rw [if_neg hc25] at h
                refine zv_con hB zd270_99 rfl ?_
                refine zv_ist hB zd270_100 rfl rfl rfl ?_
                refine zv_ild hB zd270_102 rfl rfl ?_
                refine zv_zeq hB zd270_104 rfl (fun _ => ?_) (fun hc => absurd hc (by decide))
                refine zv_iincw hB zd270_127 rfl rfl ?_
                refine zv_goto hB zd270_130 rfl ?_
                refine zv_wk hB (L' := [.inr 0, .inl x1, .inl x2, .inl x3, .inl (zi_w (x4 + 1)), .inr 1000]) (F' := [.inl f0]) ⟨fun _ => rfl, fun _ => rfl, fun _ => rfl, fun _ => rfl, fun _ => rfl, fun (h : zv_is (.inr 1000)) => (Nat.lt_irrefl 1000 h).elim, trivial⟩ ⟨fun _ => rfl, trivial⟩ ?_
                exact ih _ _ _ _ q h hK
              · rw [if_pos hc25] at h
                refine zv_con hB zd270_95 rfl ?_
                refine zv_goto hB zd270_96 rfl ?_
                refine zv_ist hB zd270_100 rfl rfl rfl ?_
                refine zv_ild hB zd270_102 rfl rfl ?_
                refine zv_zeq hB zd270_104 rfl (fun hc => absurd hc (by decide)) (fun _ => ?_)
                refine zv_ald hB zd270_107 rfl rfl rfl ?_
                refine zv_getr hB zd270_108 rfl ?_
                refine zv_ild hB zd270_111 rfl rfl ?_
                obtain ⟨c28, h⟩ := zi_if h
                refine zv_iald hB zd270_112 rfl rfl (zi_ix_ok c28).1 (zi_ix_ok c28).2 (fun _ _ => ?_)
                refine zv_ald hB zd270_113 rfl rfl rfl ?_
                refine zv_getr hB zd270_114 rfl ?_
                refine zv_ild hB zd270_117 rfl rfl ?_
                refine zv_iald hB zd270_118 rfl rfl (zi_ix_ok c6).1 (zi_ix_ok c6).2 (fun _ _ => ?_)
                obtain ⟨r29, hr29, h⟩ := zi_bind h
                refine zv_cs hB (zv_emq (va2 := [.inl (g4 x2), .inl (g0 x3)]) (F := [.inl f0]) (F' := [.inl f0]) (G := [g0, g1, g2, g3, g4]) (G' := [g0, g1, g2, g3, g4]) (ρ := []) (φ := []) (ψ := []) [none] [none, none, none, none, none] zyw_M_has zyw_M_canBe zye_M_canBe (by decide +kernel) (zt_M_has hr29) trivial trivial rfl rfl rfl rfl rfl rfl rfl) zd270_119 zxt204 rfl (by decide) (by decide) rfl ?_
                refine zv_zne hB zd270_122 rfl (fun hc30 => ?_) (fun hc30 => ?_)
                · rw [if_neg hc30] at h
                  refine zv_iincw hB zd270_127 rfl rfl ?_
                  refine zv_goto hB zd270_130 rfl ?_
                  refine zv_wk hB (L' := [.inr 0, .inl x1, .inl x2, .inl x3, .inl (zi_w (x4 + 1)), .inr 1000]) (F' := [.inl f0]) ⟨fun _ => rfl, fun _ => rfl, fun _ => rfl, fun _ => rfl, fun _ => rfl, fun (h : zv_is (.inr 1000)) => (Nat.lt_irrefl 1000 h).elim, trivial⟩ ⟨fun _ => rfl, trivial⟩ ?_
                  exact ih _ _ _ _ q h hK
                · rw [if_pos hc30] at h
                  refine zv_con hB zd270_125 rfl ?_
                  have hw : 0 = o := zi_rk (Option.some.inj h) hK
                  subst hw
                  exact hret _ _ _ _ _ zd270_126 (by constructor <;> decide) ⟨rfl, rfl, rfl⟩
  have l0 : ∀ (n : Nat) (x1 : Int) (x2 : Int) (x3 : Int) (q : ((Unit) ⊕ (Int))), zf_M_canBe_l0 x1 x2 f0 g0 g1 g2 g3 g4 n x3 = some q → (Sum.elim (fun e : Unit => good 139 [.inr 1000, .inr 1000, .inr 1000, .inr 1000, .inr 1000, .inr 1000] [] [.inl f0] [g0, g1, g2, g3, g4]) (fun w : Int => w = o) q) → good 2 [.inr 0, .inl x1, .inl x2, .inl x3, .inr 1000, .inr 1000] [] [.inl f0] [g0, g1, g2, g3, g4] := by
    intro n
    induction n with
    | zero => intro x1 x2 x3 q h; exact absurd (show none = some q from h) (fun h => by cases h)
    | succ n ih =>
      intro x1 x2 x3 q h hK
      replace h : zf_M_canBe_l0_b x1 x2 f0 g0 g1 g2 g3 g4 (zf_M_canBe_l0 x1 x2 f0 g0 g1 g2 g3 g4 n) x3 = some q := h
      unfold zf_M_canBe_l0_b at h
      refine zv_ild hB zd270_2 rfl rfl ?_
      refine zv_ild hB zd270_3 rfl rfl ?_
      refine zv_cge hB zd270_4 rfl (fun hc1 => ?_) (fun hc1 => ?_)
      · rw [if_neg (Int.not_lt.mpr hc1)] at h
        have hq := Option.some.inj h
        subst hq
        refine zv_wk hB (L' := [.inr 1000, .inr 1000, .inr 1000, .inr 1000, .inr 1000, .inr 1000]) (F' := [.inl f0]) ⟨fun (h : zv_is (.inr 1000)) => (Nat.lt_irrefl 1000 h).elim, fun (h : zv_is (.inr 1000)) => (Nat.lt_irrefl 1000 h).elim, fun (h : zv_is (.inr 1000)) => (Nat.lt_irrefl 1000 h).elim, fun (h : zv_is (.inr 1000)) => (Nat.lt_irrefl 1000 h).elim, fun (h : zv_is (.inr 1000)) => (Nat.lt_irrefl 1000 h).elim, fun (h : zv_is (.inr 1000)) => (Nat.lt_irrefl 1000 h).elim, trivial⟩ ⟨fun _ => rfl, trivial⟩ ?_
        exact hK
      · rw [if_pos hc1] at h
        refine zv_ald hB zd270_7 rfl rfl rfl ?_
        refine zv_getr hB zd270_8 rfl ?_
        refine zv_ild hB zd270_11 rfl rfl ?_
        obtain ⟨c2, h⟩ := zi_if h
        refine zv_iald hB zd270_12 rfl rfl (zi_ix_ok c2).1 (zi_ix_ok c2).2 (fun _ _ => ?_)
        refine zv_ild hB zd270_13 rfl rfl ?_
        refine zv_cne hB zd270_14 rfl (fun hc3 => ?_) (fun hc3 => ?_)
        · rw [if_neg hc3] at h
          refine zv_con hB zd270_19 rfl ?_
          refine zv_ist hB zd270_20 rfl rfl rfl ?_
          obtain ⟨q31, hq31, h⟩ := zi_bind h
          refine l1 _ _ _ _ _ q31 hq31 ?_
          rcases q31 with e32 | w33
          · replace h := zi_sl h
            show good 133 [.inr 0, .inl x1, .inl x2, .inl x3, .inr 1000, .inr 1000] [] [.inl f0] [g0, g1, g2, g3, g4]
            refine zv_iincw hB zd270_133 rfl rfl ?_
            refine zv_goto hB zd270_136 rfl ?_
            exact ih _ _ _ q h hK
          · exact zi_rk (Option.some.inj h) hK
        · rw [if_pos hc3] at h
          refine zv_con hB zd270_17 rfl ?_
          have hw : 0 = o := zi_rk (Option.some.inj h) hK
          subst hw
          exact hret _ _ _ _ _ zd270_18 (by constructor <;> decide) ⟨rfl, rfl, rfl⟩
  unfold zf_M_canBe at h
  refine zv_con hB zd270_0 rfl ?_
  refine zv_ist hB zd270_1 rfl rfl rfl ?_
  obtain ⟨q34, hq34, h⟩ := zi_bind h
  refine l0 _ _ _ _ q34 hq34 ?_
  rcases q34 with e35 | w36
  · replace h := zi_sl h
    show good 139 [.inr 1000, .inr 1000, .inr 1000, .inr 1000, .inr 1000, .inr 1000] [] [.inl f0] [g0, g1, g2, g3, g4]
    refine zv_con hB zd270_139 rfl ?_
    have hw := Option.some.inj h
    subst hw
    exact hret _ _ _ _ _ zd270_140 (by constructor <;> decide) ⟨rfl, rfl, rfl⟩
  · exact Option.some.inj h
/-! M_ways (I)I -/
-- names: 0 StarTalesModel('arg', 0), 1 (0, 8)(0, 12, 38), 2 (0, 8)(0, 12, 39), 3 (0, 12)(0, 12, 34), 4 (0, 12)(0, 12, 35), 5 (0, 24)(0, 12, 28), 6 (0, 8)(0, 12, 40)
-- fields: f0 = 0.nameMany_, f1 = 0.namesIn_, f2 = 0.seen0_, f3 = 0.taleLines_; arrays: g0 = 1, g1 = 2, g2 = 3, g3 = 4, g4 = 5, g5 = 6; out: [('ret', None), ('f', 0), ('g', 0), ('g', 1), ('g', 5)]
abbrev zy_M_ways : zNL := (7, [(0, 12)], [(0, 12, 41, 0), (0, 12, 33, 1), (0, 12, 27, 2), (0, 12, 31, 3)], [(0, 12, 38, 1), (0, 12, 39, 2), (0, 12, 34, 3), (0, 12, 35, 4), (0, 12, 28, 5), (0, 12, 40, 6)], [(1, 0, 8, 0), (2, 0, 8, 1), (3, 0, 12, 2), (4, 0, 12, 3), (5, 0, 24, 4), (6, 0, 8, 5)])
theorem zyw_M_ways : zv_wf zy_M_ways = true := by decide +kernel
theorem zye_M_ways : zv_ek2 zy_M_ways = true := by decide +kernel
def zf_M_ways_l1_b (x3 : Int) (f2 : Int) (f3 : Int) (g0 : (Int → Int)) (g1 : (Int → Int)) (g2 : (Int → Int)) (g3 : (Int → Int)) (g4 : (Int → Int)) (rec : Int → Option (Int)) (x4 : Int) : Option (Int) := if x4 < 24 then ((zf_M_has f2 x4).bind fun r6 => (if r6 = 0 then (rec (zi_w (x4 + 1))) else ((zf_M_canBe x3 x4 f3 g1 g2 g0 g3 g4).bind fun r8 => (if r8 = 0 then (rec (zi_w (x4 + 1))) else (some x4))))) else (some x4)
def zf_M_ways_l1 (x3 : Int) (f2 : Int) (f3 : Int) (g0 : (Int → Int)) (g1 : (Int → Int)) (g2 : (Int → Int)) (g3 : (Int → Int)) (g4 : (Int → Int)) : Nat → Int → Option (Int)
  | 0, _ => none
  | n + 1, x4 => zf_M_ways_l1_b x3 f2 f3 g0 g1 g2 g3 g4 (zf_M_ways_l1 x3 f2 f3 g0 g1 g2 g3 g4 n) x4
def zf_M_ways_l2_b (f0 : Int) (g0 : (Int → Int)) (g1 : (Int → Int)) (rec : Int → (Int → Int) → Option ((Int → Int))) (x5 : Int) (g5 : (Int → Int)) : Option ((Int → Int)) := if x5 < f0 then (cond (zi_ix x5 8) (cond (zi_ix (g0 x5) 8) (rec (zi_w (x5 + 1)) (zv_up g5 (g0 x5) (g1 x5))) none) none) else (some g5)
def zf_M_ways_l2 (f0 : Int) (g0 : (Int → Int)) (g1 : (Int → Int)) : Nat → Int → (Int → Int) → Option ((Int → Int))
  | 0, _, _ => none
  | n + 1, x5, g5 => zf_M_ways_l2_b f0 g0 g1 (zf_M_ways_l2 f0 g0 g1 n) x5 g5
def zf_M_ways_l0_b (x1 : Int) (f0 : Int) (f2 : Int) (f3 : Int) (g0 : (Int → Int)) (g2 : (Int → Int)) (g3 : (Int → Int)) (g4 : (Int → Int)) (rec : Int → Int → (Int → Int) → (Int → Int) → Option (Int × (Int → Int) × (Int → Int))) (x2 : Int) (x3 : Int) (g1 : (Int → Int)) (g5 : (Int → Int)) : Option (Int × (Int → Int) × (Int → Int)) := if x3 < 0 then (some (x2, g1, g5)) else (if x2 < x1 then (cond (zi_ix x3 8) ((zf_M_ways_l1 x3 f2 f3 g0 g1 g2 g3 g4 zi_fu (zi_w ((g1 x3) + 1))).bind fun q10 => (if q10 = 24 then (rec x2 (zi_w (x3 - 1)) g1 g5) else (if (zi_w (x3 + 1)) < f0 then (cond (zi_ix (zi_w (x3 + 1)) 8) (rec x2 (zi_w (x3 + 1)) (zv_up (zv_up g1 x3 q10) (zi_w (x3 + 1)) (-1)) g5) none) else (if x2 = 0 then ((zf_M_ways_l2 f0 g0 (zv_up g1 x3 q10) zi_fu 0 g5).bind fun q17 => (rec (zi_w (x2 + 1)) x3 (zv_up g1 x3 q10) q17)) else (rec (zi_w (x2 + 1)) x3 (zv_up g1 x3 q10) g5))))) none) else (some (x2, g1, g5)))
def zf_M_ways_l0 (x1 : Int) (f0 : Int) (f2 : Int) (f3 : Int) (g0 : (Int → Int)) (g2 : (Int → Int)) (g3 : (Int → Int)) (g4 : (Int → Int)) : Nat → Int → Int → (Int → Int) → (Int → Int) → Option (Int × (Int → Int) × (Int → Int))
  | 0, _, _, _, _ => none
  | n + 1, x2, x3, g1, g5 => zf_M_ways_l0_b x1 f0 f2 f3 g0 g2 g3 g4 (zf_M_ways_l0 x1 f0 f2 f3 g0 g2 g3 g4 n) x2 x3 g1 g5
def zf_M_ways (x1 : Int) (f0 : Int) (f1 : Int) (f2 : Int) (f3 : Int) (g0 : (Int → Int)) (g1 : (Int → Int)) (g2 : (Int → Int)) (g3 : (Int → Int)) (g4 : (Int → Int)) (g5 : (Int → Int)) : Option (Int × Int × (Int → Int) × (Int → Int) × (Int → Int)) := (zf_M_laysNames f0 f1 g0).bind fun r1 => ((zf_M_ways_l0 x1 r1.1 f2 f3 r1.2 g2 g3 g4 zi_fu 0 0 (zv_up g1 0 (-1)) g5).bind fun q19 => (some (q19.1, r1.1, r1.2, q19.2.1, q19.2.2)))
theorem zd268_0 : decode zxm268.2.1 0 = .ok (.aload_n 0, 1) := by decide +kernel
theorem zd268_1 : decode zxm268.2.1 1 = .ok (.invokevirtual 360, 3) := by decide +kernel
theorem zd268_4 : decode zxm268.2.1 4 = .ok (.iconst 0, 1) := by decide +kernel
theorem zd268_5 : decode zxm268.2.1 5 = .ok (.istore_n 2, 1) := by decide +kernel
theorem zd268_6 : decode zxm268.2.1 6 = .ok (.iconst 0, 1) := by decide +kernel
theorem zd268_7 : decode zxm268.2.1 7 = .ok (.istore_n 3, 1) := by decide +kernel
theorem zd268_8 : decode zxm268.2.1 8 = .ok (.aload_n 0, 1) := by decide +kernel
theorem zd268_9 : decode zxm268.2.1 9 = .ok (.getfield 80, 3) := by decide +kernel
theorem zd268_12 : decode zxm268.2.1 12 = .ok (.iconst 0, 1) := by decide +kernel
theorem zd268_13 : decode zxm268.2.1 13 = .ok (.iconst (-1), 1) := by decide +kernel
theorem zd268_14 : decode zxm268.2.1 14 = .ok (.iastore, 1) := by decide +kernel
theorem zd268_15 : decode zxm268.2.1 15 = .ok (.iload_n 3, 1) := by decide +kernel
theorem zd268_16 : decode zxm268.2.1 16 = .ok (.ifCond .lt 150, 3) := by decide +kernel
theorem zd268_19 : decode zxm268.2.1 19 = .ok (.iload_n 2, 1) := by decide +kernel
theorem zd268_20 : decode zxm268.2.1 20 = .ok (.iload_n 1, 1) := by decide +kernel
theorem zd268_21 : decode zxm268.2.1 21 = .ok (.if_icmp .ge 145, 3) := by decide +kernel
theorem zd268_24 : decode zxm268.2.1 24 = .ok (.aload_n 0, 1) := by decide +kernel
theorem zd268_25 : decode zxm268.2.1 25 = .ok (.getfield 80, 3) := by decide +kernel
theorem zd268_28 : decode zxm268.2.1 28 = .ok (.iload_n 3, 1) := by decide +kernel
theorem zd268_29 : decode zxm268.2.1 29 = .ok (.iaload, 1) := by decide +kernel
theorem zd268_30 : decode zxm268.2.1 30 = .ok (.iconst 1, 1) := by decide +kernel
theorem zd268_31 : decode zxm268.2.1 31 = .ok (.iadd, 1) := by decide +kernel
theorem zd268_32 : decode zxm268.2.1 32 = .ok (.istore 4, 2) := by decide +kernel
theorem zd268_34 : decode zxm268.2.1 34 = .ok (.iload 4, 2) := by decide +kernel
theorem zd268_36 : decode zxm268.2.1 36 = .ok (.bipush 24, 2) := by decide +kernel
theorem zd268_38 : decode zxm268.2.1 38 = .ok (.if_icmp .ge 34, 3) := by decide +kernel
theorem zd268_41 : decode zxm268.2.1 41 = .ok (.aload_n 0, 1) := by decide +kernel
theorem zd268_42 : decode zxm268.2.1 42 = .ok (.getfield 303, 3) := by decide +kernel
theorem zd268_45 : decode zxm268.2.1 45 = .ok (.iload 4, 2) := by decide +kernel
theorem zd268_47 : decode zxm268.2.1 47 = .ok (.invokestatic 138, 3) := by decide +kernel
theorem zd268_50 : decode zxm268.2.1 50 = .ok (.ifCond .eq 13, 3) := by decide +kernel
theorem zd268_53 : decode zxm268.2.1 53 = .ok (.aload_n 0, 1) := by decide +kernel
theorem zd268_54 : decode zxm268.2.1 54 = .ok (.iload_n 3, 1) := by decide +kernel
theorem zd268_55 : decode zxm268.2.1 55 = .ok (.iload 4, 2) := by decide +kernel
theorem zd268_57 : decode zxm268.2.1 57 = .ok (.invokevirtual 363, 3) := by decide +kernel
theorem zd268_60 : decode zxm268.2.1 60 = .ok (.ifCond .ne 12, 3) := by decide +kernel
theorem zd268_63 : decode zxm268.2.1 63 = .ok (.iload 4, 2) := by decide +kernel
theorem zd268_65 : decode zxm268.2.1 65 = .ok (.iconst 1, 1) := by decide +kernel
theorem zd268_66 : decode zxm268.2.1 66 = .ok (.iadd, 1) := by decide +kernel
theorem zd268_67 : decode zxm268.2.1 67 = .ok (.istore 4, 2) := by decide +kernel
theorem zd268_69 : decode zxm268.2.1 69 = .ok (.goto (-35), 3) := by decide +kernel
theorem zd268_72 : decode zxm268.2.1 72 = .ok (.iload 4, 2) := by decide +kernel
theorem zd268_74 : decode zxm268.2.1 74 = .ok (.bipush 24, 2) := by decide +kernel
theorem zd268_76 : decode zxm268.2.1 76 = .ok (.if_icmp .ne 10, 3) := by decide +kernel
theorem zd268_79 : decode zxm268.2.1 79 = .ok (.iload_n 3, 1) := by decide +kernel
theorem zd268_80 : decode zxm268.2.1 80 = .ok (.iconst 1, 1) := by decide +kernel
theorem zd268_81 : decode zxm268.2.1 81 = .ok (.isub, 1) := by decide +kernel
theorem zd268_82 : decode zxm268.2.1 82 = .ok (.istore_n 3, 1) := by decide +kernel
theorem zd268_83 : decode zxm268.2.1 83 = .ok (.goto (-68), 3) := by decide +kernel
theorem zd268_86 : decode zxm268.2.1 86 = .ok (.aload_n 0, 1) := by decide +kernel
theorem zd268_87 : decode zxm268.2.1 87 = .ok (.getfield 80, 3) := by decide +kernel
theorem zd268_90 : decode zxm268.2.1 90 = .ok (.iload_n 3, 1) := by decide +kernel
theorem zd268_91 : decode zxm268.2.1 91 = .ok (.iload 4, 2) := by decide +kernel
theorem zd268_93 : decode zxm268.2.1 93 = .ok (.iastore, 1) := by decide +kernel
theorem zd268_94 : decode zxm268.2.1 94 = .ok (.iload_n 3, 1) := by decide +kernel
theorem zd268_95 : decode zxm268.2.1 95 = .ok (.iconst 1, 1) := by decide +kernel
theorem zd268_96 : decode zxm268.2.1 96 = .ok (.iadd, 1) := by decide +kernel
theorem zd268_97 : decode zxm268.2.1 97 = .ok (.aload_n 0, 1) := by decide +kernel
theorem zd268_98 : decode zxm268.2.1 98 = .ok (.getfield 357, 3) := by decide +kernel
theorem zd268_101 : decode zxm268.2.1 101 = .ok (.if_icmp .ge 17, 3) := by decide +kernel
theorem zd268_104 : decode zxm268.2.1 104 = .ok (.iload_n 3, 1) := by decide +kernel
theorem zd268_105 : decode zxm268.2.1 105 = .ok (.iconst 1, 1) := by decide +kernel
theorem zd268_106 : decode zxm268.2.1 106 = .ok (.iadd, 1) := by decide +kernel
theorem zd268_107 : decode zxm268.2.1 107 = .ok (.istore_n 3, 1) := by decide +kernel
theorem zd268_108 : decode zxm268.2.1 108 = .ok (.aload_n 0, 1) := by decide +kernel
theorem zd268_109 : decode zxm268.2.1 109 = .ok (.getfield 80, 3) := by decide +kernel
theorem zd268_112 : decode zxm268.2.1 112 = .ok (.iload_n 3, 1) := by decide +kernel
theorem zd268_113 : decode zxm268.2.1 113 = .ok (.iconst (-1), 1) := by decide +kernel
theorem zd268_114 : decode zxm268.2.1 114 = .ok (.iastore, 1) := by decide +kernel
theorem zd268_115 : decode zxm268.2.1 115 = .ok (.goto (-100), 3) := by decide +kernel
theorem zd268_118 : decode zxm268.2.1 118 = .ok (.iload_n 2, 1) := by decide +kernel
theorem zd268_119 : decode zxm268.2.1 119 = .ok (.ifCond .ne 40, 3) := by decide +kernel
theorem zd268_122 : decode zxm268.2.1 122 = .ok (.iconst 0, 1) := by decide +kernel
theorem zd268_123 : decode zxm268.2.1 123 = .ok (.istore 5, 2) := by decide +kernel
theorem zd268_125 : decode zxm268.2.1 125 = .ok (.iload 5, 2) := by decide +kernel
theorem zd268_127 : decode zxm268.2.1 127 = .ok (.aload_n 0, 1) := by decide +kernel
theorem zd268_128 : decode zxm268.2.1 128 = .ok (.getfield 357, 3) := by decide +kernel
theorem zd268_131 : decode zxm268.2.1 131 = .ok (.if_icmp .ge 28, 3) := by decide +kernel
theorem zd268_134 : decode zxm268.2.1 134 = .ok (.aload_n 0, 1) := by decide +kernel
theorem zd268_135 : decode zxm268.2.1 135 = .ok (.getfield 83, 3) := by decide +kernel
theorem zd268_138 : decode zxm268.2.1 138 = .ok (.aload_n 0, 1) := by decide +kernel
theorem zd268_139 : decode zxm268.2.1 139 = .ok (.getfield 77, 3) := by decide +kernel
theorem zd268_142 : decode zxm268.2.1 142 = .ok (.iload 5, 2) := by decide +kernel
theorem zd268_144 : decode zxm268.2.1 144 = .ok (.iaload, 1) := by decide +kernel
theorem zd268_145 : decode zxm268.2.1 145 = .ok (.aload_n 0, 1) := by decide +kernel
theorem zd268_146 : decode zxm268.2.1 146 = .ok (.getfield 80, 3) := by decide +kernel
theorem zd268_149 : decode zxm268.2.1 149 = .ok (.iload 5, 2) := by decide +kernel
theorem zd268_151 : decode zxm268.2.1 151 = .ok (.iaload, 1) := by decide +kernel
theorem zd268_152 : decode zxm268.2.1 152 = .ok (.iastore, 1) := by decide +kernel
theorem zd268_153 : decode zxm268.2.1 153 = .ok (.iinc 5 1, 3) := by decide +kernel
theorem zd268_156 : decode zxm268.2.1 156 = .ok (.goto (-31), 3) := by decide +kernel
theorem zd268_159 : decode zxm268.2.1 159 = .ok (.iload_n 2, 1) := by decide +kernel
theorem zd268_160 : decode zxm268.2.1 160 = .ok (.iconst 1, 1) := by decide +kernel
theorem zd268_161 : decode zxm268.2.1 161 = .ok (.iadd, 1) := by decide +kernel
theorem zd268_162 : decode zxm268.2.1 162 = .ok (.istore_n 2, 1) := by decide +kernel
theorem zd268_163 : decode zxm268.2.1 163 = .ok (.goto (-148), 3) := by decide +kernel
theorem zd268_166 : decode zxm268.2.1 166 = .ok (.iload_n 2, 1) := by decide +kernel
theorem zd268_167 : decode zxm268.2.1 167 = .ok (.ireturn, 1) := by decide +kernel
theorem zt_M_ways {x1 : Int} {f0 : Int} {f1 : Int} {f2 : Int} {f3 : Int} {g0 : (Int → Int)} {g1 : (Int → Int)} {g2 : (Int → Int)} {g3 : (Int → Int)} {g4 : (Int → Int)} {g5 : (Int → Int)} {o : Int × Int × (Int → Int) × (Int → Int) × (Int → Int)} (h : zf_M_ways x1 f0 f1 f2 f3 g0 g1 g2 g3 g4 g5 = some o) : zv_Fn z_TB z_cl z_KX zy_M_ways zxm268 (2, 120) [.inr 0, .inl x1] [.inl f0, .inl f1, .inl f2, .inl f3] [g0, g1, g2, g3, g4, g5] (some o.1) [.inl o.2.1, .inl f1, .inl f2, .inl f3] [o.2.2.1, o.2.2.2.1, g2, g3, g4, o.2.2.2.2] := zv_meth (K := (z_KF13, z_KC13, z_KL13, z_KT13, [], [], [], none)) (FT := z_FT) (MT := z_MT) (n := 2) zxp268 (z_ks13 _ (fun _ h => List.mem_cons_of_mem _ h) _ _ _ _ (fun j r h _ => by cases h)) (fun _ _ => zs_KX_p) zyw_M_ways (fun va F G h => by obtain ⟨rfl, _⟩ := h; rfl) (fun va F G h => by obtain ⟨rfl, _⟩ := h; rfl) rfl fun good va F G hB hret hvret hP => by
  obtain ⟨rfl, rfl, rfl⟩ := hP
  have l1 : ∀ (n : Nat) (x1 : Int) (x2 : Int) (x3 : Int) (x4 : Int) (f0 : Int) (g0 : (Int → Int)) (g1 : (Int → Int)) (g5 : (Int → Int)) (q : Int), zf_M_ways_l1 x3 f2 f3 g0 g1 g2 g3 g4 n x4 = some q → (good 72 [.inr 0, .inl x1, .inl x2, .inl x3, .inl q, .inr 1000] [] [.inl f0, .inl f1, .inl f2, .inl f3] [g0, g1, g2, g3, g4, g5]) → good 34 [.inr 0, .inl x1, .inl x2, .inl x3, .inl x4, .inr 1000] [] [.inl f0, .inl f1, .inl f2, .inl f3] [g0, g1, g2, g3, g4, g5] := by
    intro n
    induction n with
    | zero => intro x1 x2 x3 x4 f0 g0 g1 g5 q h; exact absurd (show none = some q from h) (fun h => by cases h)
    | succ n ih =>
      intro x1 x2 x3 x4 f0 g0 g1 g5 q h hK
      replace h : zf_M_ways_l1_b x3 f2 f3 g0 g1 g2 g3 g4 (zf_M_ways_l1 x3 f2 f3 g0 g1 g2 g3 g4 n) x4 = some q := h
      unfold zf_M_ways_l1_b at h
      refine zv_ild hB zd268_34 rfl rfl ?_
      refine zv_con hB zd268_36 rfl ?_
      refine zv_cge hB zd268_38 rfl (fun hc5 => ?_) (fun hc5 => ?_)
      · rw [if_neg (Int.not_lt.mpr hc5)] at h
        have hq := Option.some.inj h
        subst hq
        exact hK
      · rw [if_pos hc5] at h
        refine zv_ald hB zd268_41 rfl rfl rfl ?_
        refine zv_getf hB zd268_42 rfl rfl (fun _ _ => ?_)
        refine zv_ild hB zd268_45 rfl rfl ?_
        obtain ⟨r6, hr6, h⟩ := zi_bind h
        refine zv_cs hB (zv_emq (va2 := [.inl f2, .inl x4]) (F := [.inl f0, .inl f1, .inl f2, .inl f3]) (F' := [.inl f0, .inl f1, .inl f2, .inl f3]) (G := [g0, g1, g2, g3, g4, g5]) (G' := [g0, g1, g2, g3, g4, g5]) (ρ := []) (φ := []) (ψ := []) [none, none, none, none] [none, none, none, none, none, none] zyw_M_has zyw_M_ways zye_M_ways (by decide +kernel) (zt_M_has hr6) trivial trivial rfl rfl rfl rfl rfl rfl rfl) zd268_47 zxt204 rfl (by decide) (by decide) rfl ?_
        refine zv_zeq hB zd268_50 rfl (fun hc7 => ?_) (fun hc7 => ?_)
        · rw [if_pos hc7] at h
          refine zv_ild hB zd268_63 rfl rfl ?_
          refine zv_con hB zd268_65 rfl ?_
          refine zv_addw hB zd268_66 ?_
          refine zv_ist hB zd268_67 rfl rfl rfl ?_
          refine zv_goto hB zd268_69 rfl ?_
          exact ih _ _ _ _ _ _ _ _ q h hK
        · rw [if_neg hc7] at h
          refine zv_ald hB zd268_53 rfl rfl rfl ?_
          refine zv_ild hB zd268_54 rfl rfl ?_
          refine zv_ild hB zd268_55 rfl rfl ?_
          obtain ⟨r8, hr8, h⟩ := zi_bind h
          refine zv_cv hB (zv_emq (va2 := [.inr 0, .inl x3, .inl x4]) (F := [.inl f0, .inl f1, .inl f2, .inl f3]) (F' := [.inl f0, .inl f1, .inl f2, .inl f3]) (G := [g0, g1, g2, g3, g4, g5]) (G' := [g0, g1, g2, g3, g4, g5]) (ρ := [0, 2, 3, 1, 4, 5]) (φ := [3]) (ψ := [1, 2, 0, 3, 4]) [none, none, none, some 0] [some 2, some 0, some 1, some 3, some 4, none] zyw_M_canBe zyw_M_ways zye_M_ways (by decide +kernel) (zt_M_canBe hr8) ⟨⟨_, rfl, fun _ => rfl⟩, trivial⟩ ⟨rfl, rfl, rfl, rfl, rfl, trivial⟩ rfl rfl rfl rfl rfl rfl rfl) zd268_57 zxt270 rfl (by decide) (by decide) rfl ?_
          refine zv_zne hB zd268_60 rfl (fun hc9 => ?_) (fun hc9 => ?_)
          · rw [if_neg hc9] at h
            have hq := Option.some.inj h
            subst hq
            exact hK
          · rw [if_pos hc9] at h
            refine zv_ild hB zd268_63 rfl rfl ?_
            refine zv_con hB zd268_65 rfl ?_
            refine zv_addw hB zd268_66 ?_
            refine zv_ist hB zd268_67 rfl rfl rfl ?_
            refine zv_goto hB zd268_69 rfl ?_
            exact ih _ _ _ _ _ _ _ _ q h hK
  have l2 : ∀ (n : Nat) (x1 : Int) (x2 : Int) (x3 : Int) (x5 : Int) (f0 : Int) (g0 : (Int → Int)) (g1 : (Int → Int)) (g5 : (Int → Int)) (q : (Int → Int)), zf_M_ways_l2 f0 g0 g1 n x5 g5 = some q → (good 159 [.inr 0, .inl x1, .inl x2, .inl x3, .inr 1000, .inr 1000] [] [.inl f0, .inl f1, .inl f2, .inl f3] [g0, g1, g2, g3, g4, q]) → good 125 [.inr 0, .inl x1, .inl x2, .inl x3, .inr 1000, .inl x5] [] [.inl f0, .inl f1, .inl f2, .inl f3] [g0, g1, g2, g3, g4, g5] := by
    intro n
    induction n with
    | zero => intro x1 x2 x3 x5 f0 g0 g1 g5 q h; exact absurd (show none = some q from h) (fun h => by cases h)
    | succ n ih =>
      intro x1 x2 x3 x5 f0 g0 g1 g5 q h hK
      replace h : zf_M_ways_l2_b f0 g0 g1 (zf_M_ways_l2 f0 g0 g1 n) x5 g5 = some q := h
      unfold zf_M_ways_l2_b at h
      refine zv_ild hB zd268_125 rfl rfl ?_
      refine zv_ald hB zd268_127 rfl rfl rfl ?_
      refine zv_getf hB zd268_128 rfl rfl (fun _ _ => ?_)
      refine zv_cge hB zd268_131 rfl (fun hc14 => ?_) (fun hc14 => ?_)
      · rw [if_neg (Int.not_lt.mpr hc14)] at h
        have hq := Option.some.inj h
        subst hq
        refine zv_wk hB (L' := [.inr 0, .inl x1, .inl x2, .inl x3, .inr 1000, .inr 1000]) (F' := [.inl f0, .inl f1, .inl f2, .inl f3]) ⟨fun _ => rfl, fun _ => rfl, fun _ => rfl, fun _ => rfl, fun (h : zv_is (.inr 1000)) => (Nat.lt_irrefl 1000 h).elim, fun (h : zv_is (.inr 1000)) => (Nat.lt_irrefl 1000 h).elim, trivial⟩ ⟨fun _ => rfl, fun _ => rfl, fun _ => rfl, fun _ => rfl, trivial⟩ ?_
        exact hK
      · rw [if_pos hc14] at h
        refine zv_ald hB zd268_134 rfl rfl rfl ?_
        refine zv_getr hB zd268_135 rfl ?_
        refine zv_ald hB zd268_138 rfl rfl rfl ?_
        refine zv_getr hB zd268_139 rfl ?_
        refine zv_ild hB zd268_142 rfl rfl ?_
        obtain ⟨c15, h⟩ := zi_if h
        refine zv_iald hB zd268_144 rfl rfl (zi_ix_ok c15).1 (zi_ix_ok c15).2 (fun _ _ => ?_)
        refine zv_ald hB zd268_145 rfl rfl rfl ?_
        refine zv_getr hB zd268_146 rfl ?_
        refine zv_ild hB zd268_149 rfl rfl ?_
        refine zv_iald hB zd268_151 rfl rfl (zi_ix_ok c15).1 (zi_ix_ok c15).2 (fun _ _ => ?_)
        obtain ⟨c16, h⟩ := zi_if h
        refine zv_iast hB zd268_152 rfl rfl (zi_ix_ok c16).1 (zi_ix_ok c16).2 ?_
        refine zv_iincw hB zd268_153 rfl rfl ?_
        refine zv_goto hB zd268_156 rfl ?_
        exact ih _ _ _ _ _ _ _ _ q h hK
  have l0 : ∀ (n : Nat) (x1 : Int) (x2 : Int) (x3 : Int) (f0 : Int) (g0 : (Int → Int)) (g1 : (Int → Int)) (g5 : (Int → Int)) (q : Int × (Int → Int) × (Int → Int)), zf_M_ways_l0 x1 f0 f2 f3 g0 g2 g3 g4 n x2 x3 g1 g5 = some q → (good 166 [.inr 1000, .inr 1000, .inl q.1, .inr 1000, .inr 1000, .inr 1000] [] [.inl f0, .inl f1, .inl f2, .inl f3] [g0, q.2.1, g2, g3, g4, q.2.2]) → good 15 [.inr 0, .inl x1, .inl x2, .inl x3, .inr 1000, .inr 1000] [] [.inl f0, .inl f1, .inl f2, .inl f3] [g0, g1, g2, g3, g4, g5] := by
    intro n
    induction n with
    | zero => intro x1 x2 x3 f0 g0 g1 g5 q h; exact absurd (show none = some q from h) (fun h => by cases h)
    | succ n ih =>
      intro x1 x2 x3 f0 g0 g1 g5 q h hK
      replace h : zf_M_ways_l0_b x1 f0 f2 f3 g0 g2 g3 g4 (zf_M_ways_l0 x1 f0 f2 f3 g0 g2 g3 g4 n) x2 x3 g1 g5 = some q := h
      unfold zf_M_ways_l0_b at h
      refine zv_ild hB zd268_15 rfl rfl ?_
      refine zv_zlt hB zd268_16 rfl (fun hc2 => ?_) (fun hc2 => ?_)
      · rw [if_pos hc2] at h
        have hq := Option.some.inj h
        subst hq
        refine zv_wk hB (L' := [.inr 1000, .inr 1000, .inl x2, .inr 1000, .inr 1000, .inr 1000]) (F' := [.inl f0, .inl f1, .inl f2, .inl f3]) ⟨fun (h : zv_is (.inr 1000)) => (Nat.lt_irrefl 1000 h).elim, fun (h : zv_is (.inr 1000)) => (Nat.lt_irrefl 1000 h).elim, fun _ => rfl, fun (h : zv_is (.inr 1000)) => (Nat.lt_irrefl 1000 h).elim, fun (h : zv_is (.inr 1000)) => (Nat.lt_irrefl 1000 h).elim, fun (h : zv_is (.inr 1000)) => (Nat.lt_irrefl 1000 h).elim, trivial⟩ ⟨fun _ => rfl, fun _ => rfl, fun _ => rfl, fun _ => rfl, trivial⟩ ?_
        exact hK
      · rw [if_neg (Int.not_lt.mpr hc2)] at h
        refine zv_ild hB zd268_19 rfl rfl ?_
        refine zv_ild hB zd268_20 rfl rfl ?_
        refine zv_cge hB zd268_21 rfl (fun hc3 => ?_) (fun hc3 => ?_)
        · rw [if_neg (Int.not_lt.mpr hc3)] at h
          have hq := Option.some.inj h
          subst hq
          refine zv_wk hB (L' := [.inr 1000, .inr 1000, .inl x2, .inr 1000, .inr 1000, .inr 1000]) (F' := [.inl f0, .inl f1, .inl f2, .inl f3]) ⟨fun (h : zv_is (.inr 1000)) => (Nat.lt_irrefl 1000 h).elim, fun (h : zv_is (.inr 1000)) => (Nat.lt_irrefl 1000 h).elim, fun _ => rfl, fun (h : zv_is (.inr 1000)) => (Nat.lt_irrefl 1000 h).elim, fun (h : zv_is (.inr 1000)) => (Nat.lt_irrefl 1000 h).elim, fun (h : zv_is (.inr 1000)) => (Nat.lt_irrefl 1000 h).elim, trivial⟩ ⟨fun _ => rfl, fun _ => rfl, fun _ => rfl, fun _ => rfl, trivial⟩ ?_
          exact hK
        · rw [if_pos hc3] at h
          refine zv_ald hB zd268_24 rfl rfl rfl ?_
          refine zv_getr hB zd268_25 rfl ?_
          refine zv_ild hB zd268_28 rfl rfl ?_
          obtain ⟨c4, h⟩ := zi_if h
          refine zv_iald hB zd268_29 rfl rfl (zi_ix_ok c4).1 (zi_ix_ok c4).2 (fun _ _ => ?_)
          refine zv_con hB zd268_30 rfl ?_
          refine zv_addw hB zd268_31 ?_
          refine zv_ist hB zd268_32 rfl rfl rfl ?_
          obtain ⟨q10, hq10, h⟩ := zi_bind h
          refine l1 _ _ _ _ _ _ _ _ _ q10 hq10 ?_
          show good 72 [.inr 0, .inl x1, .inl x2, .inl x3, .inl q10, .inr 1000] [] [.inl f0, .inl f1, .inl f2, .inl f3] [g0, g1, g2, g3, g4, g5]
          refine zv_ild hB zd268_72 rfl rfl ?_
          refine zv_con hB zd268_74 rfl ?_
          refine zv_cne hB zd268_76 rfl (fun hc11 => ?_) (fun hc11 => ?_)
          · rw [if_neg hc11] at h
            refine zv_ald hB zd268_86 rfl rfl rfl ?_
            refine zv_getr hB zd268_87 rfl ?_
            refine zv_ild hB zd268_90 rfl rfl ?_
            refine zv_ild hB zd268_91 rfl rfl ?_
            refine zv_iast hB zd268_93 rfl rfl (zi_ix_ok c4).1 (zi_ix_ok c4).2 ?_
            refine zv_ild hB zd268_94 rfl rfl ?_
            refine zv_con hB zd268_95 rfl ?_
            refine zv_addw hB zd268_96 ?_
            refine zv_ald hB zd268_97 rfl rfl rfl ?_
            refine zv_getf hB zd268_98 rfl rfl (fun _ _ => ?_)
            refine zv_cge hB zd268_101 rfl (fun hc12 => ?_) (fun hc12 => ?_)
            · rw [if_neg (Int.not_lt.mpr hc12)] at h
              refine zv_ild hB zd268_118 rfl rfl ?_
              refine zv_zne hB zd268_119 rfl (fun hc13 => ?_) (fun hc13 => ?_)
              · rw [if_neg hc13] at h
                refine zv_ild hB zd268_159 rfl rfl ?_
                refine zv_con hB zd268_160 rfl ?_
                refine zv_addw hB zd268_161 ?_
                refine zv_ist hB zd268_162 rfl rfl rfl ?_
                refine zv_goto hB zd268_163 rfl ?_
                refine zv_wk hB (L' := [.inr 0, .inl x1, .inl (zi_w (x2 + 1)), .inl x3, .inr 1000, .inr 1000]) (F' := [.inl f0, .inl f1, .inl f2, .inl f3]) ⟨fun _ => rfl, fun _ => rfl, fun _ => rfl, fun _ => rfl, fun (h : zv_is (.inr 1000)) => (Nat.lt_irrefl 1000 h).elim, fun (h : zv_is (.inr 1000)) => (Nat.lt_irrefl 1000 h).elim, trivial⟩ ⟨fun _ => rfl, fun _ => rfl, fun _ => rfl, fun _ => rfl, trivial⟩ ?_
                exact ih _ _ _ _ _ _ _ q h hK
              · rw [if_pos hc13] at h
                refine zv_con hB zd268_122 rfl ?_
                refine zv_ist hB zd268_123 rfl rfl rfl ?_
                obtain ⟨q17, hq17, h⟩ := zi_bind h
                refine zv_wk hB (L' := [.inr 0, .inl x1, .inl x2, .inl x3, .inr 1000, .inl 0]) (F' := [.inl f0, .inl f1, .inl f2, .inl f3]) ⟨fun _ => rfl, fun _ => rfl, fun _ => rfl, fun _ => rfl, fun (h : zv_is (.inr 1000)) => (Nat.lt_irrefl 1000 h).elim, fun _ => rfl, trivial⟩ ⟨fun _ => rfl, fun _ => rfl, fun _ => rfl, fun _ => rfl, trivial⟩ ?_
                refine l2 _ _ _ _ _ _ _ _ _ q17 hq17 ?_
                show good 159 [.inr 0, .inl x1, .inl x2, .inl x3, .inr 1000, .inr 1000] [] [.inl f0, .inl f1, .inl f2, .inl f3] [g0, (zv_up g1 x3 q10), g2, g3, g4, q17]
                refine zv_ild hB zd268_159 rfl rfl ?_
                refine zv_con hB zd268_160 rfl ?_
                refine zv_addw hB zd268_161 ?_
                refine zv_ist hB zd268_162 rfl rfl rfl ?_
                refine zv_goto hB zd268_163 rfl ?_
                exact ih _ _ _ _ _ _ _ q h hK
            · rw [if_pos hc12] at h
              refine zv_ild hB zd268_104 rfl rfl ?_
              refine zv_con hB zd268_105 rfl ?_
              refine zv_addw hB zd268_106 ?_
              refine zv_ist hB zd268_107 rfl rfl rfl ?_
              refine zv_ald hB zd268_108 rfl rfl rfl ?_
              refine zv_getr hB zd268_109 rfl ?_
              refine zv_ild hB zd268_112 rfl rfl ?_
              refine zv_con hB zd268_113 rfl ?_
              obtain ⟨c18, h⟩ := zi_if h
              refine zv_iast hB zd268_114 rfl rfl (zi_ix_ok c18).1 (zi_ix_ok c18).2 ?_
              refine zv_goto hB zd268_115 rfl ?_
              refine zv_wk hB (L' := [.inr 0, .inl x1, .inl x2, .inl (zi_w (x3 + 1)), .inr 1000, .inr 1000]) (F' := [.inl f0, .inl f1, .inl f2, .inl f3]) ⟨fun _ => rfl, fun _ => rfl, fun _ => rfl, fun _ => rfl, fun (h : zv_is (.inr 1000)) => (Nat.lt_irrefl 1000 h).elim, fun (h : zv_is (.inr 1000)) => (Nat.lt_irrefl 1000 h).elim, trivial⟩ ⟨fun _ => rfl, fun _ => rfl, fun _ => rfl, fun _ => rfl, trivial⟩ ?_
              exact ih _ _ _ _ _ _ _ q h hK
          · rw [if_pos hc11] at h
            refine zv_ild hB zd268_79 rfl rfl ?_
            refine zv_con hB zd268_80 rfl ?_
            refine zv_subw hB zd268_81 ?_
            refine zv_ist hB zd268_82 rfl rfl rfl ?_
            refine zv_goto hB zd268_83 rfl ?_
            refine zv_wk hB (L' := [.inr 0, .inl x1, .inl x2, .inl (zi_w (x3 - 1)), .inr 1000, .inr 1000]) (F' := [.inl f0, .inl f1, .inl f2, .inl f3]) ⟨fun _ => rfl, fun _ => rfl, fun _ => rfl, fun _ => rfl, fun (h : zv_is (.inr 1000)) => (Nat.lt_irrefl 1000 h).elim, fun (h : zv_is (.inr 1000)) => (Nat.lt_irrefl 1000 h).elim, trivial⟩ ⟨fun _ => rfl, fun _ => rfl, fun _ => rfl, fun _ => rfl, trivial⟩ ?_
            exact ih _ _ _ _ _ _ _ q h hK
  unfold zf_M_ways at h
  refine zv_ald hB zd268_0 rfl rfl rfl ?_
  obtain ⟨r1, hr1, h⟩ := zi_bind h
  refine zv_cv hB (zv_emq (va2 := [.inr 0]) (F := [.inl f0, .inl f1, .inl f2, .inl f3]) (F' := [.inl r1.1, .inl f1, .inl f2, .inl f3]) (G := [g0, g1, g2, g3, g4, g5]) (G' := [r1.2, g1, g2, g3, g4, g5]) (ρ := [0, 1]) (φ := [0, 1]) (ψ := [0]) [some 0, some 1, none, none] [some 0, none, none, none, none, none] zyw_M_laysNames zyw_M_ways zye_M_ways (by decide +kernel) (zt_M_laysNames hr1) ⟨⟨_, rfl, fun _ => rfl⟩, ⟨_, rfl, fun _ => rfl⟩, trivial⟩ ⟨rfl, trivial⟩ rfl rfl rfl rfl rfl rfl rfl) zd268_1 zxt269 rfl (by decide) (by decide) rfl ?_
  refine zv_con hB zd268_4 rfl ?_
  refine zv_ist hB zd268_5 rfl rfl rfl ?_
  refine zv_con hB zd268_6 rfl ?_
  refine zv_ist hB zd268_7 rfl rfl rfl ?_
  refine zv_ald hB zd268_8 rfl rfl rfl ?_
  refine zv_getr hB zd268_9 rfl ?_
  refine zv_con hB zd268_12 rfl ?_
  refine zv_con hB zd268_13 rfl ?_
  refine zv_iast hB zd268_14 rfl rfl (by decide) (by decide) ?_
  obtain ⟨q19, hq19, h⟩ := zi_bind h
  refine l0 _ _ _ _ _ _ _ _ q19 hq19 ?_
  show good 166 [.inr 1000, .inr 1000, .inl q19.1, .inr 1000, .inr 1000, .inr 1000] [] [.inl r1.1, .inl f1, .inl f2, .inl f3] [r1.2, q19.2.1, g2, g3, g4, q19.2.2]
  refine zv_ild hB zd268_166 rfl rfl ?_
  have hw := Option.some.inj h
  subst hw
  exact hret _ _ _ _ _ zd268_167 (by trivial) ⟨rfl, rfl, rfl⟩
end
section
/-! Methods as functions, and that they do what these do. -/
/-! M_matched (III)I -/
-- names: 0 StarTalesModel('arg', 0), 1 (0, 422)(0, 12, 0), 2 (0, 14)(0, 12, 21), 3 (0, 13)(0, 12, 26), 4 (0, 14)(0, 12, 23), 5 (0, 14)(0, 12, 24), 6 (0, 220)(0, 12, 20), 7 (0, 220)(0, 12, 25), 8 (0, 24)(0, 12, 28), 9 (0, 8)(0, 12, 38), 10 (0, 8)(0, 12, 39), 11 (0, 12)(0, 12, 34), 12 (0, 12)(0, 12, 35), 13 (0, 8)(0, 12, 40)
-- fields: f0 = 0.taleLines_, f1 = 0.clauses_, f2 = 0.seen0_, f3 = 0.namesIn_, f4 = 0.nameMany_; arrays: g0 = 1, g1 = 2, g2 = 3, g3 = 4, g4 = 5, g5 = 6, g6 = 7, g7 = 8, g8 = 9, g9 = 10, g10 = 11, g11 = 12, g12 = 13; out: [('ret', None), ('f', 2), ('f', 4), ('g', 2), ('g', 6), ('g', 7), ('g', 8), ('g', 9), ('g', 12)]
abbrev zy_M_matched : zNL := (14, [(0, 12)], [(0, 12, 31, 0), (0, 12, 13, 1), (0, 12, 27, 2), (0, 12, 33, 3), (0, 12, 41, 4)], [(0, 12, 0, 1), (0, 12, 21, 2), (0, 12, 26, 3), (0, 12, 23, 4), (0, 12, 24, 5), (0, 12, 20, 6), (0, 12, 25, 7), (0, 12, 28, 8), (0, 12, 38, 9), (0, 12, 39, 10), (0, 12, 34, 11), (0, 12, 35, 12), (0, 12, 40, 13)], [(1, 0, 422, 0), (2, 0, 14, 1), (3, 0, 13, 2), (4, 0, 14, 3), (5, 0, 14, 4), (6, 0, 220, 5), (7, 0, 220, 6), (8, 0, 24, 7), (9, 0, 8, 8), (10, 0, 8, 9), (11, 0, 12, 10), (12, 0, 12, 11), (13, 0, 8, 12)])
theorem zyw_M_matched : zv_wf zy_M_matched = true := by decide +kernel
theorem zye_M_matched : zv_ek2 zy_M_matched = true := by decide +kernel
def zf_M_matched (x1 : Int) (x2 : Int) (x3 : Int) (f0 : Int) (f1 : Int) (f2 : Int) (f3 : Int) (f4 : Int) (g0 : (Int → Int)) (g1 : (Int → Int)) (g2 : (Int → Int)) (g3 : (Int → Int)) (g4 : (Int → Int)) (g5 : (Int → Int)) (g6 : (Int → Int)) (g7 : (Int → Int)) (g8 : (Int → Int)) (g9 : (Int → Int)) (g10 : (Int → Int)) (g11 : (Int → Int)) (g12 : (Int → Int)) : Option (Int × Int × Int × (Int → Int) × (Int → Int) × (Int → Int) × (Int → Int) × (Int → Int) × (Int → Int)) := (zf_M_isPlace x1 x2).bind fun r1 => (if r1 = 0 then (some ((-3), f2, f4, g2, g6, g7, g8, g9, g12)) else ((zf_M_in x3 (-1) 7).bind fun r3 => (if r3 = 0 then (some ((-3), f2, f4, g2, g6, g7, g8, g9, g12)) else (if f0 = 0 then (some ((-2), f2, f4, g2, g6, g7, g8, g9, g12)) else ((zf_M_looks (zi_w ((zi_w (24 * x2)) + x1)) f1 f2 g0 g1 g2 g3 g4 g5 g6 g7).bind fun r6 => (if x3 = (-1) then ((zf_M_ways 10000 f4 f3 r6.1 f0 g8 g9 g10 g11 r6.2.2.2 g12).bind fun r13 => (some (r13.1, r6.1, r13.2.1, r6.2.1, r6.2.2.1, r6.2.2.2, r13.2.2.1, r13.2.2.2.1, r13.2.2.2.2))) else ((zf_M_has f3 x3).bind fun r8 => (if r8 = 0 then (some ((-2), r6.1, f4, r6.2.1, r6.2.2.1, r6.2.2.2, g8, g9, g12)) else ((zf_M_ways 1 f4 f3 r6.1 f0 g8 g9 g10 g11 r6.2.2.2 g12).bind fun r10 => (if 0 < r10.1 then (cond (zi_ix x3 8) (some ((r10.2.2.2.2 x3), r6.1, r10.2.1, r6.2.1, r6.2.2.1, r6.2.2.2, r10.2.2.1, r10.2.2.2.1, r10.2.2.2.2)) none) else (some ((-2), r6.1, r10.2.1, r6.2.1, r6.2.2.1, r6.2.2.2, r10.2.2.1, r10.2.2.2.1, r10.2.2.2.2))))))))))))
theorem zd267_0 : decode zxm267.2.1 0 = .ok (.iload_n 1, 1) := by decide +kernel
theorem zd267_1 : decode zxm267.2.1 1 = .ok (.iload_n 2, 1) := by decide +kernel
theorem zd267_2 : decode zxm267.2.1 2 = .ok (.invokestatic 154, 3) := by decide +kernel
theorem zd267_5 : decode zxm267.2.1 5 = .ok (.ifCond .eq 13, 3) := by decide +kernel
theorem zd267_8 : decode zxm267.2.1 8 = .ok (.iload_n 3, 1) := by decide +kernel
theorem zd267_9 : decode zxm267.2.1 9 = .ok (.iconst (-1), 1) := by decide +kernel
theorem zd267_10 : decode zxm267.2.1 10 = .ok (.bipush 7, 2) := by decide +kernel
theorem zd267_12 : decode zxm267.2.1 12 = .ok (.invokestatic 150, 3) := by decide +kernel
theorem zd267_15 : decode zxm267.2.1 15 = .ok (.ifCond .ne 6, 3) := by decide +kernel
theorem zd267_18 : decode zxm267.2.1 18 = .ok (.bipush (-3), 2) := by decide +kernel
theorem zd267_20 : decode zxm267.2.1 20 = .ok (.ireturn, 1) := by decide +kernel
theorem zd267_21 : decode zxm267.2.1 21 = .ok (.aload_n 0, 1) := by decide +kernel
theorem zd267_22 : decode zxm267.2.1 22 = .ok (.getfield 351, 3) := by decide +kernel
theorem zd267_25 : decode zxm267.2.1 25 = .ok (.ifCond .ne 6, 3) := by decide +kernel
theorem zd267_28 : decode zxm267.2.1 28 = .ok (.bipush (-2), 2) := by decide +kernel
theorem zd267_30 : decode zxm267.2.1 30 = .ok (.ireturn, 1) := by decide +kernel
theorem zd267_31 : decode zxm267.2.1 31 = .ok (.aload_n 0, 1) := by decide +kernel
theorem zd267_32 : decode zxm267.2.1 32 = .ok (.bipush 24, 2) := by decide +kernel
theorem zd267_34 : decode zxm267.2.1 34 = .ok (.iload_n 2, 1) := by decide +kernel
theorem zd267_35 : decode zxm267.2.1 35 = .ok (.imul, 1) := by decide +kernel
theorem zd267_36 : decode zxm267.2.1 36 = .ok (.iload_n 1, 1) := by decide +kernel
theorem zd267_37 : decode zxm267.2.1 37 = .ok (.iadd, 1) := by decide +kernel
theorem zd267_38 : decode zxm267.2.1 38 = .ok (.invokevirtual 309, 3) := by decide +kernel
theorem zd267_41 : decode zxm267.2.1 41 = .ok (.iload_n 3, 1) := by decide +kernel
theorem zd267_42 : decode zxm267.2.1 42 = .ok (.iconst (-1), 1) := by decide +kernel
theorem zd267_43 : decode zxm267.2.1 43 = .ok (.if_icmp .ne 11, 3) := by decide +kernel
theorem zd267_46 : decode zxm267.2.1 46 = .ok (.aload_n 0, 1) := by decide +kernel
theorem zd267_47 : decode zxm267.2.1 47 = .ok (.sipush 10000, 3) := by decide +kernel
theorem zd267_50 : decode zxm267.2.1 50 = .ok (.invokevirtual 366, 3) := by decide +kernel
theorem zd267_53 : decode zxm267.2.1 53 = .ok (.ireturn, 1) := by decide +kernel
theorem zd267_54 : decode zxm267.2.1 54 = .ok (.aload_n 0, 1) := by decide +kernel
theorem zd267_55 : decode zxm267.2.1 55 = .ok (.getfield 354, 3) := by decide +kernel
theorem zd267_58 : decode zxm267.2.1 58 = .ok (.iload_n 3, 1) := by decide +kernel
theorem zd267_59 : decode zxm267.2.1 59 = .ok (.invokestatic 138, 3) := by decide +kernel
theorem zd267_62 : decode zxm267.2.1 62 = .ok (.ifCond .eq 20, 3) := by decide +kernel
theorem zd267_65 : decode zxm267.2.1 65 = .ok (.aload_n 0, 1) := by decide +kernel
theorem zd267_66 : decode zxm267.2.1 66 = .ok (.iconst 1, 1) := by decide +kernel
theorem zd267_67 : decode zxm267.2.1 67 = .ok (.invokevirtual 366, 3) := by decide +kernel
theorem zd267_70 : decode zxm267.2.1 70 = .ok (.ifCond .le 12, 3) := by decide +kernel
theorem zd267_73 : decode zxm267.2.1 73 = .ok (.aload_n 0, 1) := by decide +kernel
theorem zd267_74 : decode zxm267.2.1 74 = .ok (.getfield 83, 3) := by decide +kernel
theorem zd267_77 : decode zxm267.2.1 77 = .ok (.iload_n 3, 1) := by decide +kernel
theorem zd267_78 : decode zxm267.2.1 78 = .ok (.iaload, 1) := by decide +kernel
theorem zd267_79 : decode zxm267.2.1 79 = .ok (.goto 5, 3) := by decide +kernel
theorem zd267_82 : decode zxm267.2.1 82 = .ok (.bipush (-2), 2) := by decide +kernel
theorem zd267_84 : decode zxm267.2.1 84 = .ok (.ireturn, 1) := by decide +kernel
theorem zt_M_matched {x1 : Int} {x2 : Int} {x3 : Int} {f0 : Int} {f1 : Int} {f2 : Int} {f3 : Int} {f4 : Int} {g0 : (Int → Int)} {g1 : (Int → Int)} {g2 : (Int → Int)} {g3 : (Int → Int)} {g4 : (Int → Int)} {g5 : (Int → Int)} {g6 : (Int → Int)} {g7 : (Int → Int)} {g8 : (Int → Int)} {g9 : (Int → Int)} {g10 : (Int → Int)} {g11 : (Int → Int)} {g12 : (Int → Int)} {o : Int × Int × Int × (Int → Int) × (Int → Int) × (Int → Int) × (Int → Int) × (Int → Int) × (Int → Int)} (h : zf_M_matched x1 x2 x3 f0 f1 f2 f3 f4 g0 g1 g2 g3 g4 g5 g6 g7 g8 g9 g10 g11 g12 = some o) : zv_Fn z_TB z_cl z_KX zy_M_matched zxm267 (6, 360) [.inr 0, .inl x1, .inl x2, .inl x3] [.inl f0, .inl f1, .inl f2, .inl f3, .inl f4] [g0, g1, g2, g3, g4, g5, g6, g7, g8, g9, g10, g11, g12] (some o.1) [.inl f0, .inl f1, .inl o.2.1, .inl f3, .inl o.2.2.1] [g0, g1, o.2.2.2.1, g3, g4, g5, o.2.2.2.2.1, o.2.2.2.2.2.1, o.2.2.2.2.2.2.1, o.2.2.2.2.2.2.2.1, g10, g11, o.2.2.2.2.2.2.2.2] := zv_meth (K := (z_KF13, z_KC13, z_KL13, z_KT13, [], [], [], none)) (FT := z_FT) (MT := z_MT) (n := 4) zxp267 (z_ks13 _ (fun _ h => List.mem_cons_of_mem _ h) _ _ _ _ (fun j r h _ => by cases h)) (fun _ _ => zs_KX_p) zyw_M_matched (fun va F G h => by obtain ⟨rfl, _⟩ := h; rfl) (fun va F G h => by obtain ⟨rfl, _⟩ := h; rfl) rfl fun good va F G hB hret hvret hP => by
  obtain ⟨rfl, rfl, rfl⟩ := hP
  unfold zf_M_matched at h
  refine zv_ild hB zd267_0 rfl rfl ?_
  refine zv_ild hB zd267_1 rfl rfl ?_
  obtain ⟨r1, hr1, h⟩ := zi_bind h
  refine zv_cs hB (zv_emq (va2 := [.inl x1, .inl x2]) (F := [.inl f0, .inl f1, .inl f2, .inl f3, .inl f4]) (F' := [.inl f0, .inl f1, .inl f2, .inl f3, .inl f4]) (G := [g0, g1, g2, g3, g4, g5, g6, g7, g8, g9, g10, g11, g12]) (G' := [g0, g1, g2, g3, g4, g5, g6, g7, g8, g9, g10, g11, g12]) (ρ := []) (φ := []) (ψ := []) [none, none, none, none, none] [none, none, none, none, none, none, none, none, none, none, none, none, none] zyw_M_isPlace zyw_M_matched zye_M_matched (by decide +kernel) (zt_M_isPlace hr1) trivial trivial rfl rfl rfl rfl rfl rfl rfl) zd267_2 zxt201 rfl (by decide) (by decide) rfl ?_
  refine zv_zeq hB zd267_5 rfl (fun hc2 => ?_) (fun hc2 => ?_)
  · rw [if_pos hc2] at h
    refine zv_con hB zd267_18 rfl ?_
    have hw := Option.some.inj h
    subst hw
    exact hret _ _ _ _ _ zd267_20 (by trivial) ⟨rfl, rfl, rfl⟩
  · rw [if_neg hc2] at h
    refine zv_ild hB zd267_8 rfl rfl ?_
    refine zv_con hB zd267_9 rfl ?_
    refine zv_con hB zd267_10 rfl ?_
    obtain ⟨r3, hr3, h⟩ := zi_bind h
    refine zv_cs hB (zv_emq (va2 := [.inl x3, .inl (-1), .inl 7]) (F := [.inl f0, .inl f1, .inl f2, .inl f3, .inl f4]) (F' := [.inl f0, .inl f1, .inl f2, .inl f3, .inl f4]) (G := [g0, g1, g2, g3, g4, g5, g6, g7, g8, g9, g10, g11, g12]) (G' := [g0, g1, g2, g3, g4, g5, g6, g7, g8, g9, g10, g11, g12]) (ρ := []) (φ := []) (ψ := []) [none, none, none, none, none] [none, none, none, none, none, none, none, none, none, none, none, none, none] zyw_M_in zyw_M_matched zye_M_matched (by decide +kernel) (zt_M_in hr3) trivial trivial rfl rfl rfl rfl rfl rfl rfl) zd267_12 zxt200 rfl (by decide) (by decide) rfl ?_
    refine zv_zne hB zd267_15 rfl (fun hc4 => ?_) (fun hc4 => ?_)
    · rw [if_neg hc4] at h
      refine zv_ald hB zd267_21 rfl rfl rfl ?_
      refine zv_getf hB zd267_22 rfl rfl (fun _ _ => ?_)
      refine zv_zne hB zd267_25 rfl (fun hc5 => ?_) (fun hc5 => ?_)
      · rw [if_neg hc5] at h
        refine zv_ald hB zd267_31 rfl rfl rfl ?_
        refine zv_con hB zd267_32 rfl ?_
        refine zv_ild hB zd267_34 rfl rfl ?_
        refine zv_mulw hB zd267_35 ?_
        refine zv_ild hB zd267_36 rfl rfl ?_
        refine zv_addw hB zd267_37 ?_
        obtain ⟨r6, hr6, h⟩ := zi_bind h
        refine zv_cv hB (zv_emq (va2 := [.inr 0, .inl (zi_w ((zi_w (24 * x2)) + x1))]) (F := [.inl f0, .inl f1, .inl f2, .inl f3, .inl f4]) (F' := [.inl f0, .inl f1, .inl r6.1, .inl f3, .inl f4]) (G := [g0, g1, g2, g3, g4, g5, g6, g7, g8, g9, g10, g11, g12]) (G' := [g0, g1, r6.2.1, g3, g4, g5, r6.2.2.1, r6.2.2.2, g8, g9, g10, g11, g12]) (ρ := [0, 1, 2, 3, 4, 5, 6, 7, 8]) (φ := [1, 2]) (ψ := [0, 1, 2, 3, 4, 5, 6, 7]) [none, some 0, some 1, none, none] [some 0, some 1, some 2, some 3, some 4, some 5, some 6, some 7, none, none, none, none, none] zyw_M_looks zyw_M_matched zye_M_matched (by decide +kernel) (zt_M_looks hr6) ⟨⟨_, rfl, fun _ => rfl⟩, ⟨_, rfl, fun _ => rfl⟩, trivial⟩ ⟨rfl, rfl, rfl, rfl, rfl, rfl, rfl, rfl, trivial⟩ rfl rfl rfl rfl rfl rfl rfl) zd267_38 zxt252 rfl (by decide) (by decide) rfl ?_
        refine zv_ild hB zd267_41 rfl rfl ?_
        refine zv_con hB zd267_42 rfl ?_
        refine zv_cne hB zd267_43 rfl (fun hc7 => ?_) (fun hc7 => ?_)
        · rw [if_neg hc7] at h
          refine zv_ald hB zd267_54 rfl rfl rfl ?_
          refine zv_getf hB zd267_55 rfl rfl (fun _ _ => ?_)
          refine zv_ild hB zd267_58 rfl rfl ?_
          obtain ⟨r8, hr8, h⟩ := zi_bind h
          refine zv_cs hB (zv_emq (va2 := [.inl f3, .inl x3]) (F := [.inl f0, .inl f1, .inl r6.1, .inl f3, .inl f4]) (F' := [.inl f0, .inl f1, .inl r6.1, .inl f3, .inl f4]) (G := [g0, g1, r6.2.1, g3, g4, g5, r6.2.2.1, r6.2.2.2, g8, g9, g10, g11, g12]) (G' := [g0, g1, r6.2.1, g3, g4, g5, r6.2.2.1, r6.2.2.2, g8, g9, g10, g11, g12]) (ρ := []) (φ := []) (ψ := []) [none, none, none, none, none] [none, none, none, none, none, none, none, none, none, none, none, none, none] zyw_M_has zyw_M_matched zye_M_matched (by decide +kernel) (zt_M_has hr8) trivial trivial rfl rfl rfl rfl rfl rfl rfl) zd267_59 zxt204 rfl (by decide) (by decide) rfl ?_
          refine zv_zeq hB zd267_62 rfl (fun hc9 => ?_) (fun hc9 => ?_)
          · rw [if_pos hc9] at h
            refine zv_con hB zd267_82 rfl ?_
            have hw := Option.some.inj h
            subst hw
            exact hret _ _ _ _ _ zd267_84 (by trivial) ⟨rfl, rfl, rfl⟩
          · rw [if_neg hc9] at h
            refine zv_ald hB zd267_65 rfl rfl rfl ?_
            refine zv_con hB zd267_66 rfl ?_
            obtain ⟨r10, hr10, h⟩ := zi_bind h
            refine zv_cv hB (zv_emq (va2 := [.inr 0, .inl 1]) (F := [.inl f0, .inl f1, .inl r6.1, .inl f3, .inl f4]) (F' := [.inl f0, .inl f1, .inl r6.1, .inl f3, .inl r10.2.1]) (G := [g0, g1, r6.2.1, g3, g4, g5, r6.2.2.1, r6.2.2.2, g8, g9, g10, g11, g12]) (G' := [g0, g1, r6.2.1, g3, g4, g5, r6.2.2.1, r6.2.2.2, r10.2.2.1, r10.2.2.2.1, g10, g11, r10.2.2.2.2]) (ρ := [0, 9, 10, 11, 12, 8, 13]) (φ := [4, 3, 2, 0]) (ψ := [8, 9, 10, 11, 7, 12]) [some 3, none, some 2, some 1, some 0] [none, none, none, none, none, none, none, some 4, some 0, some 1, some 2, some 3, some 5] zyw_M_ways zyw_M_matched zye_M_matched (by decide +kernel) (zt_M_ways hr10) ⟨⟨_, rfl, fun _ => rfl⟩, ⟨_, rfl, fun _ => rfl⟩, ⟨_, rfl, fun _ => rfl⟩, ⟨_, rfl, fun _ => rfl⟩, trivial⟩ ⟨rfl, rfl, rfl, rfl, rfl, rfl, trivial⟩ rfl rfl rfl rfl rfl rfl rfl) zd267_67 zxt268 rfl (by decide) (by decide) rfl ?_
            refine zv_zle hB zd267_70 rfl (fun hc11 => ?_) (fun hc11 => ?_)
            · rw [if_neg (Int.not_lt.mpr hc11)] at h
              refine zv_con hB zd267_82 rfl ?_
              have hw := Option.some.inj h
              subst hw
              exact hret _ _ _ _ _ zd267_84 (by trivial) ⟨rfl, rfl, rfl⟩
            · rw [if_pos hc11] at h
              refine zv_ald hB zd267_73 rfl rfl rfl ?_
              refine zv_getr hB zd267_74 rfl ?_
              refine zv_ild hB zd267_77 rfl rfl ?_
              obtain ⟨c12, h⟩ := zi_if h
              refine zv_iald hB zd267_78 rfl rfl (zi_ix_ok c12).1 (zi_ix_ok c12).2 (fun _ _ => ?_)
              refine zv_goto hB zd267_79 rfl ?_
              have hw := Option.some.inj h
              subst hw
              exact hret _ _ _ _ _ zd267_84 (by trivial) ⟨rfl, rfl, rfl⟩
        · rw [if_pos hc7] at h
          refine zv_ald hB zd267_46 rfl rfl rfl ?_
          refine zv_con hB zd267_47 rfl ?_
          obtain ⟨r13, hr13, h⟩ := zi_bind h
          refine zv_cv hB (zv_emq (va2 := [.inr 0, .inl 10000]) (F := [.inl f0, .inl f1, .inl r6.1, .inl f3, .inl f4]) (F' := [.inl f0, .inl f1, .inl r6.1, .inl f3, .inl r13.2.1]) (G := [g0, g1, r6.2.1, g3, g4, g5, r6.2.2.1, r6.2.2.2, g8, g9, g10, g11, g12]) (G' := [g0, g1, r6.2.1, g3, g4, g5, r6.2.2.1, r6.2.2.2, r13.2.2.1, r13.2.2.2.1, g10, g11, r13.2.2.2.2]) (ρ := [0, 9, 10, 11, 12, 8, 13]) (φ := [4, 3, 2, 0]) (ψ := [8, 9, 10, 11, 7, 12]) [some 3, none, some 2, some 1, some 0] [none, none, none, none, none, none, none, some 4, some 0, some 1, some 2, some 3, some 5] zyw_M_ways zyw_M_matched zye_M_matched (by decide +kernel) (zt_M_ways hr13) ⟨⟨_, rfl, fun _ => rfl⟩, ⟨_, rfl, fun _ => rfl⟩, ⟨_, rfl, fun _ => rfl⟩, ⟨_, rfl, fun _ => rfl⟩, trivial⟩ ⟨rfl, rfl, rfl, rfl, rfl, rfl, trivial⟩ rfl rfl rfl rfl rfl rfl rfl) zd267_50 zxt268 rfl (by decide) (by decide) rfl ?_
          have hw := Option.some.inj h
          subst hw
          exact hret _ _ _ _ _ zd267_53 (by trivial) ⟨rfl, rfl, rfl⟩
      · rw [if_pos hc5] at h
        refine zv_con hB zd267_28 rfl ?_
        have hw := Option.some.inj h
        subst hw
        exact hret _ _ _ _ _ zd267_30 (by trivial) ⟨rfl, rfl, rfl⟩
    · rw [if_pos hc4] at h
      refine zv_con hB zd267_18 rfl ?_
      have hw := Option.some.inj h
      subst hw
      exact hret _ _ _ _ _ zd267_20 (by trivial) ⟨rfl, rfl, rfl⟩
/-! M_canBeTold (I)Z -/
-- names: 0 StarTalesModel('arg', 0), 1 (0, 422)(0, 12, 0), 2 (0, 14)(0, 12, 21), 3 (0, 13)(0, 12, 26), 4 (0, 14)(0, 12, 23), 5 (0, 14)(0, 12, 24), 6 (0, 220)(0, 12, 20), 7 (0, 220)(0, 12, 25), 8 (0, 24)(0, 12, 28), 9 (0, 8)(0, 12, 38), 10 (0, 8)(0, 12, 39), 11 (0, 12)(0, 12, 34), 12 (0, 12)(0, 12, 35), 13 (0, 8)(0, 12, 40)
-- fields: f0 = 0.clauses_, f1 = 0.seen0_, f2 = 0.nameMany_, f3 = 0.namesIn_, f4 = 0.taleLines_; arrays: g0 = 1, g1 = 2, g2 = 3, g3 = 4, g4 = 5, g5 = 6, g6 = 7, g7 = 8, g8 = 9, g9 = 10, g10 = 11, g11 = 12, g12 = 13; out: [('ret', None), ('f', 1), ('f', 2), ('g', 2), ('g', 6), ('g', 7), ('g', 8), ('g', 9), ('g', 12)]
abbrev zy_M_canBeTold : zNL := (14, [(0, 12)], [(0, 12, 13, 0), (0, 12, 27, 1), (0, 12, 41, 2), (0, 12, 33, 3), (0, 12, 31, 4)], [(0, 12, 0, 1), (0, 12, 21, 2), (0, 12, 26, 3), (0, 12, 23, 4), (0, 12, 24, 5), (0, 12, 20, 6), (0, 12, 25, 7), (0, 12, 28, 8), (0, 12, 38, 9), (0, 12, 39, 10), (0, 12, 34, 11), (0, 12, 35, 12), (0, 12, 40, 13)], [(1, 0, 422, 0), (2, 0, 14, 1), (3, 0, 13, 2), (4, 0, 14, 3), (5, 0, 14, 4), (6, 0, 220, 5), (7, 0, 220, 6), (8, 0, 24, 7), (9, 0, 8, 8), (10, 0, 8, 9), (11, 0, 12, 10), (12, 0, 12, 11), (13, 0, 8, 12)])
theorem zyw_M_canBeTold : zv_wf zy_M_canBeTold = true := by decide +kernel
theorem zye_M_canBeTold : zv_ek2 zy_M_canBeTold = true := by decide +kernel
def zf_M_canBeTold (x1 : Int) (f0 : Int) (f1 : Int) (f2 : Int) (f3 : Int) (f4 : Int) (g0 : (Int → Int)) (g1 : (Int → Int)) (g2 : (Int → Int)) (g3 : (Int → Int)) (g4 : (Int → Int)) (g5 : (Int → Int)) (g6 : (Int → Int)) (g7 : (Int → Int)) (g8 : (Int → Int)) (g9 : (Int → Int)) (g10 : (Int → Int)) (g11 : (Int → Int)) (g12 : (Int → Int)) : Option (Int × Int × Int × (Int → Int) × (Int → Int) × (Int → Int) × (Int → Int) × (Int → Int) × (Int → Int)) := (zf_M_looks x1 f0 f1 g0 g1 g2 g3 g4 g5 g6 g7).bind fun r1 => ((zf_M_ways 1 f2 f3 r1.1 f4 g8 g9 g10 g11 r1.2.2.2 g12).bind fun r2 => (if 0 < r2.1 then (some (1, r1.1, r2.2.1, r1.2.1, r1.2.2.1, r1.2.2.2, r2.2.2.1, r2.2.2.2.1, r2.2.2.2.2)) else (some (0, r1.1, r2.2.1, r1.2.1, r1.2.2.1, r1.2.2.2, r2.2.2.1, r2.2.2.2.1, r2.2.2.2.2))))
theorem zd272_0 : decode zxm272.2.1 0 = .ok (.aload_n 0, 1) := by decide +kernel
theorem zd272_1 : decode zxm272.2.1 1 = .ok (.iload_n 1, 1) := by decide +kernel
theorem zd272_2 : decode zxm272.2.1 2 = .ok (.invokevirtual 309, 3) := by decide +kernel
theorem zd272_5 : decode zxm272.2.1 5 = .ok (.aload_n 0, 1) := by decide +kernel
theorem zd272_6 : decode zxm272.2.1 6 = .ok (.iconst 1, 1) := by decide +kernel
theorem zd272_7 : decode zxm272.2.1 7 = .ok (.invokevirtual 366, 3) := by decide +kernel
theorem zd272_10 : decode zxm272.2.1 10 = .ok (.ifCond .le 7, 3) := by decide +kernel
theorem zd272_13 : decode zxm272.2.1 13 = .ok (.iconst 1, 1) := by decide +kernel
theorem zd272_14 : decode zxm272.2.1 14 = .ok (.goto 4, 3) := by decide +kernel
theorem zd272_17 : decode zxm272.2.1 17 = .ok (.iconst 0, 1) := by decide +kernel
theorem zd272_18 : decode zxm272.2.1 18 = .ok (.ireturn, 1) := by decide +kernel
theorem zt_M_canBeTold {x1 : Int} {f0 : Int} {f1 : Int} {f2 : Int} {f3 : Int} {f4 : Int} {g0 : (Int → Int)} {g1 : (Int → Int)} {g2 : (Int → Int)} {g3 : (Int → Int)} {g4 : (Int → Int)} {g5 : (Int → Int)} {g6 : (Int → Int)} {g7 : (Int → Int)} {g8 : (Int → Int)} {g9 : (Int → Int)} {g10 : (Int → Int)} {g11 : (Int → Int)} {g12 : (Int → Int)} {o : Int × Int × Int × (Int → Int) × (Int → Int) × (Int → Int) × (Int → Int) × (Int → Int) × (Int → Int)} (h : zf_M_canBeTold x1 f0 f1 f2 f3 f4 g0 g1 g2 g3 g4 g5 g6 g7 g8 g9 g10 g11 g12 = some o) : zv_Fn z_TB z_cl z_KX zy_M_canBeTold zxm272 (6, 360) [.inr 0, .inl x1] [.inl f0, .inl f1, .inl f2, .inl f3, .inl f4] [g0, g1, g2, g3, g4, g5, g6, g7, g8, g9, g10, g11, g12] (some o.1) [.inl f0, .inl o.2.1, .inl o.2.2.1, .inl f3, .inl f4] [g0, g1, o.2.2.2.1, g3, g4, g5, o.2.2.2.2.1, o.2.2.2.2.2.1, o.2.2.2.2.2.2.1, o.2.2.2.2.2.2.2.1, g10, g11, o.2.2.2.2.2.2.2.2] := zv_meth (K := (z_KF13, z_KC13, z_KL13, z_KT13, [], [], [], none)) (FT := z_FT) (MT := z_MT) (n := 2) zxp272 (z_ks13 _ (fun _ h => List.mem_cons_of_mem _ h) _ _ _ _ (fun j r h _ => by cases h)) (fun _ _ => zs_KX_p) zyw_M_canBeTold (fun va F G h => by obtain ⟨rfl, _⟩ := h; rfl) (fun va F G h => by obtain ⟨rfl, _⟩ := h; rfl) rfl fun good va F G hB hret hvret hP => by
  obtain ⟨rfl, rfl, rfl⟩ := hP
  unfold zf_M_canBeTold at h
  refine zv_ald hB zd272_0 rfl rfl rfl ?_
  refine zv_ild hB zd272_1 rfl rfl ?_
  obtain ⟨r1, hr1, h⟩ := zi_bind h
  refine zv_cv hB (zv_emq (va2 := [.inr 0, .inl x1]) (F := [.inl f0, .inl f1, .inl f2, .inl f3, .inl f4]) (F' := [.inl f0, .inl r1.1, .inl f2, .inl f3, .inl f4]) (G := [g0, g1, g2, g3, g4, g5, g6, g7, g8, g9, g10, g11, g12]) (G' := [g0, g1, r1.2.1, g3, g4, g5, r1.2.2.1, r1.2.2.2, g8, g9, g10, g11, g12]) (ρ := [0, 1, 2, 3, 4, 5, 6, 7, 8]) (φ := [0, 1]) (ψ := [0, 1, 2, 3, 4, 5, 6, 7]) [some 0, some 1, none, none, none] [some 0, some 1, some 2, some 3, some 4, some 5, some 6, some 7, none, none, none, none, none] zyw_M_looks zyw_M_canBeTold zye_M_canBeTold (by decide +kernel) (zt_M_looks hr1) ⟨⟨_, rfl, fun _ => rfl⟩, ⟨_, rfl, fun _ => rfl⟩, trivial⟩ ⟨rfl, rfl, rfl, rfl, rfl, rfl, rfl, rfl, trivial⟩ rfl rfl rfl rfl rfl rfl rfl) zd272_2 zxt252 rfl (by decide) (by decide) rfl ?_
  refine zv_ald hB zd272_5 rfl rfl rfl ?_
  refine zv_con hB zd272_6 rfl ?_
  obtain ⟨r2, hr2, h⟩ := zi_bind h
  refine zv_cv hB (zv_emq (va2 := [.inr 0, .inl 1]) (F := [.inl f0, .inl r1.1, .inl f2, .inl f3, .inl f4]) (F' := [.inl f0, .inl r1.1, .inl r2.2.1, .inl f3, .inl f4]) (G := [g0, g1, r1.2.1, g3, g4, g5, r1.2.2.1, r1.2.2.2, g8, g9, g10, g11, g12]) (G' := [g0, g1, r1.2.1, g3, g4, g5, r1.2.2.1, r1.2.2.2, r2.2.2.1, r2.2.2.2.1, g10, g11, r2.2.2.2.2]) (ρ := [0, 9, 10, 11, 12, 8, 13]) (φ := [2, 3, 1, 4]) (ψ := [8, 9, 10, 11, 7, 12]) [none, some 2, some 0, some 1, some 3] [none, none, none, none, none, none, none, some 4, some 0, some 1, some 2, some 3, some 5] zyw_M_ways zyw_M_canBeTold zye_M_canBeTold (by decide +kernel) (zt_M_ways hr2) ⟨⟨_, rfl, fun _ => rfl⟩, ⟨_, rfl, fun _ => rfl⟩, ⟨_, rfl, fun _ => rfl⟩, ⟨_, rfl, fun _ => rfl⟩, trivial⟩ ⟨rfl, rfl, rfl, rfl, rfl, rfl, trivial⟩ rfl rfl rfl rfl rfl rfl rfl) zd272_7 zxt268 rfl (by decide) (by decide) rfl ?_
  refine zv_zle hB zd272_10 rfl (fun hc3 => ?_) (fun hc3 => ?_)
  · rw [if_neg (Int.not_lt.mpr hc3)] at h
    refine zv_con hB zd272_17 rfl ?_
    have hw := Option.some.inj h
    subst hw
    exact hret _ _ _ _ _ zd272_18 (by constructor <;> decide) ⟨rfl, rfl, rfl⟩
  · rw [if_pos hc3] at h
    refine zv_con hB zd272_13 rfl ?_
    refine zv_goto hB zd272_14 rfl ?_
    have hw := Option.some.inj h
    subst hw
    exact hret _ _ _ _ _ zd272_18 (by constructor <;> decide) ⟨rfl, rfl, rfl⟩
/-! M_where (I)I -/
-- names: 0 StarTalesModel('arg', 0), 1 (0, 422)(0, 12, 0), 2 (0, 14)(0, 12, 21), 3 (0, 13)(0, 12, 26), 4 (0, 14)(0, 12, 23), 5 (0, 14)(0, 12, 24), 6 (0, 220)(0, 12, 20), 7 (0, 220)(0, 12, 25), 8 (0, 24)(0, 12, 28), 9 (0, 8)(0, 12, 38), 10 (0, 8)(0, 12, 39), 11 (0, 12)(0, 12, 34), 12 (0, 12)(0, 12, 35), 13 (0, 8)(0, 12, 40)
-- fields: f0 = 0.taleLines_, f1 = 0.clauses_, f2 = 0.seen0_, f3 = 0.nameMany_, f4 = 0.namesIn_; arrays: g0 = 1, g1 = 2, g2 = 3, g3 = 4, g4 = 5, g5 = 6, g6 = 7, g7 = 8, g8 = 9, g9 = 10, g10 = 11, g11 = 12, g12 = 13; out: [('ret', None), ('f', 2), ('f', 3), ('g', 2), ('g', 6), ('g', 7), ('g', 8), ('g', 9), ('g', 12)]
abbrev zy_M_where : zNL := (14, [(0, 12)], [(0, 12, 31, 0), (0, 12, 13, 1), (0, 12, 27, 2), (0, 12, 41, 3), (0, 12, 33, 4)], [(0, 12, 0, 1), (0, 12, 21, 2), (0, 12, 26, 3), (0, 12, 23, 4), (0, 12, 24, 5), (0, 12, 20, 6), (0, 12, 25, 7), (0, 12, 28, 8), (0, 12, 38, 9), (0, 12, 39, 10), (0, 12, 34, 11), (0, 12, 35, 12), (0, 12, 40, 13)], [(1, 0, 422, 0), (2, 0, 14, 1), (3, 0, 13, 2), (4, 0, 14, 3), (5, 0, 14, 4), (6, 0, 220, 5), (7, 0, 220, 6), (8, 0, 24, 7), (9, 0, 8, 8), (10, 0, 8, 9), (11, 0, 12, 10), (12, 0, 12, 11), (13, 0, 8, 12)])
theorem zyw_M_where : zv_wf zy_M_where = true := by decide +kernel
theorem zye_M_where : zv_ek2 zy_M_where = true := by decide +kernel
def zf_M_where_l0_b (f0 : Int) (f1 : Int) (f4 : Int) (g0 : (Int → Int)) (g1 : (Int → Int)) (g3 : (Int → Int)) (g4 : (Int → Int)) (g5 : (Int → Int)) (g10 : (Int → Int)) (g11 : (Int → Int)) (rec : Int → Int → Int → Int → Int → (Int → Int) → (Int → Int) → (Int → Int) → (Int → Int) → (Int → Int) → (Int → Int) → Option (Int × Int × Int × Int × (Int → Int) × (Int → Int) × (Int → Int) × (Int → Int) × (Int → Int) × (Int → Int))) (x2 : Int) (x3 : Int) (x4 : Int) (f2 : Int) (f3 : Int) (g2 : (Int → Int)) (g6 : (Int → Int)) (g7 : (Int → Int)) (g8 : (Int → Int)) (g9 : (Int → Int)) (g12 : (Int → Int)) : Option (Int × Int × Int × Int × (Int → Int) × (Int → Int) × (Int → Int) × (Int → Int) × (Int → Int) × (Int → Int)) := if x4 < 288 then ((zf_M_canBeTold x4 f1 f2 f3 f4 f0 g0 g1 g2 g3 g4 g5 g6 g7 g8 g9 g10 g11 g12).bind fun r5 => (if r5.1 = 0 then (rec x2 x3 (zi_w (x4 + 1)) r5.2.1 r5.2.2.1 r5.2.2.2.1 r5.2.2.2.2.1 r5.2.2.2.2.2.1 r5.2.2.2.2.2.2.1 r5.2.2.2.2.2.2.2.1 r5.2.2.2.2.2.2.2.2) else (if x2 = 0 then (rec (zi_w (x2 + 1)) x4 (zi_w (x4 + 1)) r5.2.1 r5.2.2.1 r5.2.2.2.1 r5.2.2.2.2.1 r5.2.2.2.2.2.1 r5.2.2.2.2.2.2.1 r5.2.2.2.2.2.2.2.1 r5.2.2.2.2.2.2.2.2) else (rec (zi_w (x2 + 1)) x3 (zi_w (x4 + 1)) r5.2.1 r5.2.2.1 r5.2.2.2.1 r5.2.2.2.2.1 r5.2.2.2.2.2.1 r5.2.2.2.2.2.2.1 r5.2.2.2.2.2.2.2.1 r5.2.2.2.2.2.2.2.2)))) else (some (x2, x3, f2, f3, g2, g6, g7, g8, g9, g12))
def zf_M_where_l0 (f0 : Int) (f1 : Int) (f4 : Int) (g0 : (Int → Int)) (g1 : (Int → Int)) (g3 : (Int → Int)) (g4 : (Int → Int)) (g5 : (Int → Int)) (g10 : (Int → Int)) (g11 : (Int → Int)) : Nat → Int → Int → Int → Int → Int → (Int → Int) → (Int → Int) → (Int → Int) → (Int → Int) → (Int → Int) → (Int → Int) → Option (Int × Int × Int × Int × (Int → Int) × (Int → Int) × (Int → Int) × (Int → Int) × (Int → Int) × (Int → Int))
  | 0, _, _, _, _, _, _, _, _, _, _, _ => none
  | n + 1, x2, x3, x4, f2, f3, g2, g6, g7, g8, g9, g12 => zf_M_where_l0_b f0 f1 f4 g0 g1 g3 g4 g5 g10 g11 (zf_M_where_l0 f0 f1 f4 g0 g1 g3 g4 g5 g10 g11 n) x2 x3 x4 f2 f3 g2 g6 g7 g8 g9 g12
def zf_M_where (x1 : Int) (f0 : Int) (f1 : Int) (f2 : Int) (f3 : Int) (f4 : Int) (g0 : (Int → Int)) (g1 : (Int → Int)) (g2 : (Int → Int)) (g3 : (Int → Int)) (g4 : (Int → Int)) (g5 : (Int → Int)) (g6 : (Int → Int)) (g7 : (Int → Int)) (g8 : (Int → Int)) (g9 : (Int → Int)) (g10 : (Int → Int)) (g11 : (Int → Int)) (g12 : (Int → Int)) : Option (Int × Int × Int × (Int → Int) × (Int → Int) × (Int → Int) × (Int → Int) × (Int → Int) × (Int → Int)) := (zf_M_in x1 0 1).bind fun r1 => (if r1 = 0 then (some ((-1), f2, f3, g2, g6, g7, g8, g9, g12)) else (if f0 = 0 then (some ((-1), f2, f3, g2, g6, g7, g8, g9, g12)) else ((zf_M_where_l0 f0 f1 f4 g0 g1 g3 g4 g5 g10 g11 zi_fu 0 (-2) 0 f2 f3 g2 g6 g7 g8 g9 g12).bind fun q8 => (if x1 = 0 then (some (q8.1, q8.2.2.1, q8.2.2.2.1, q8.2.2.2.2.1, q8.2.2.2.2.2.1, q8.2.2.2.2.2.2.1, q8.2.2.2.2.2.2.2.1, q8.2.2.2.2.2.2.2.2.1, q8.2.2.2.2.2.2.2.2.2)) else (some (q8.2.1, q8.2.2.1, q8.2.2.2.1, q8.2.2.2.2.1, q8.2.2.2.2.2.1, q8.2.2.2.2.2.2.1, q8.2.2.2.2.2.2.2.1, q8.2.2.2.2.2.2.2.2.1, q8.2.2.2.2.2.2.2.2.2))))))
theorem zd271_0 : decode zxm271.2.1 0 = .ok (.iload_n 1, 1) := by decide +kernel
theorem zd271_1 : decode zxm271.2.1 1 = .ok (.iconst 0, 1) := by decide +kernel
theorem zd271_2 : decode zxm271.2.1 2 = .ok (.iconst 1, 1) := by decide +kernel
theorem zd271_3 : decode zxm271.2.1 3 = .ok (.invokestatic 150, 3) := by decide +kernel
theorem zd271_6 : decode zxm271.2.1 6 = .ok (.ifCond .eq 10, 3) := by decide +kernel
theorem zd271_9 : decode zxm271.2.1 9 = .ok (.aload_n 0, 1) := by decide +kernel
theorem zd271_10 : decode zxm271.2.1 10 = .ok (.getfield 351, 3) := by decide +kernel
theorem zd271_13 : decode zxm271.2.1 13 = .ok (.ifCond .ne 5, 3) := by decide +kernel
theorem zd271_16 : decode zxm271.2.1 16 = .ok (.iconst (-1), 1) := by decide +kernel
theorem zd271_17 : decode zxm271.2.1 17 = .ok (.ireturn, 1) := by decide +kernel
theorem zd271_18 : decode zxm271.2.1 18 = .ok (.iconst 0, 1) := by decide +kernel
theorem zd271_19 : decode zxm271.2.1 19 = .ok (.istore_n 2, 1) := by decide +kernel
theorem zd271_20 : decode zxm271.2.1 20 = .ok (.bipush (-2), 2) := by decide +kernel
theorem zd271_22 : decode zxm271.2.1 22 = .ok (.istore_n 3, 1) := by decide +kernel
theorem zd271_23 : decode zxm271.2.1 23 = .ok (.iconst 0, 1) := by decide +kernel
theorem zd271_24 : decode zxm271.2.1 24 = .ok (.istore 4, 2) := by decide +kernel
theorem zd271_26 : decode zxm271.2.1 26 = .ok (.iload 4, 2) := by decide +kernel
theorem zd271_28 : decode zxm271.2.1 28 = .ok (.sipush 288, 3) := by decide +kernel
theorem zd271_31 : decode zxm271.2.1 31 = .ok (.if_icmp .ge 36, 3) := by decide +kernel
theorem zd271_34 : decode zxm271.2.1 34 = .ok (.aload_n 0, 1) := by decide +kernel
theorem zd271_35 : decode zxm271.2.1 35 = .ok (.iload 4, 2) := by decide +kernel
theorem zd271_37 : decode zxm271.2.1 37 = .ok (.invokevirtual 369, 3) := by decide +kernel
theorem zd271_40 : decode zxm271.2.1 40 = .ok (.ifCond .ne 6, 3) := by decide +kernel
theorem zd271_43 : decode zxm271.2.1 43 = .ok (.goto 18, 3) := by decide +kernel
theorem zd271_46 : decode zxm271.2.1 46 = .ok (.iload_n 2, 1) := by decide +kernel
theorem zd271_47 : decode zxm271.2.1 47 = .ok (.ifCond .ne 8, 3) := by decide +kernel
theorem zd271_50 : decode zxm271.2.1 50 = .ok (.iload 4, 2) := by decide +kernel
theorem zd271_52 : decode zxm271.2.1 52 = .ok (.goto 4, 3) := by decide +kernel
theorem zd271_55 : decode zxm271.2.1 55 = .ok (.iload_n 3, 1) := by decide +kernel
theorem zd271_56 : decode zxm271.2.1 56 = .ok (.istore_n 3, 1) := by decide +kernel
theorem zd271_57 : decode zxm271.2.1 57 = .ok (.iload_n 2, 1) := by decide +kernel
theorem zd271_58 : decode zxm271.2.1 58 = .ok (.iconst 1, 1) := by decide +kernel
theorem zd271_59 : decode zxm271.2.1 59 = .ok (.iadd, 1) := by decide +kernel
theorem zd271_60 : decode zxm271.2.1 60 = .ok (.istore_n 2, 1) := by decide +kernel
theorem zd271_61 : decode zxm271.2.1 61 = .ok (.iinc 4 1, 3) := by decide +kernel
theorem zd271_64 : decode zxm271.2.1 64 = .ok (.goto (-38), 3) := by decide +kernel
theorem zd271_67 : decode zxm271.2.1 67 = .ok (.iload_n 1, 1) := by decide +kernel
theorem zd271_68 : decode zxm271.2.1 68 = .ok (.ifCond .ne 7, 3) := by decide +kernel
theorem zd271_71 : decode zxm271.2.1 71 = .ok (.iload_n 2, 1) := by decide +kernel
theorem zd271_72 : decode zxm271.2.1 72 = .ok (.goto 4, 3) := by decide +kernel
theorem zd271_75 : decode zxm271.2.1 75 = .ok (.iload_n 3, 1) := by decide +kernel
theorem zd271_76 : decode zxm271.2.1 76 = .ok (.ireturn, 1) := by decide +kernel
theorem zt_M_where {x1 : Int} {f0 : Int} {f1 : Int} {f2 : Int} {f3 : Int} {f4 : Int} {g0 : (Int → Int)} {g1 : (Int → Int)} {g2 : (Int → Int)} {g3 : (Int → Int)} {g4 : (Int → Int)} {g5 : (Int → Int)} {g6 : (Int → Int)} {g7 : (Int → Int)} {g8 : (Int → Int)} {g9 : (Int → Int)} {g10 : (Int → Int)} {g11 : (Int → Int)} {g12 : (Int → Int)} {o : Int × Int × Int × (Int → Int) × (Int → Int) × (Int → Int) × (Int → Int) × (Int → Int) × (Int → Int)} (h : zf_M_where x1 f0 f1 f2 f3 f4 g0 g1 g2 g3 g4 g5 g6 g7 g8 g9 g10 g11 g12 = some o) : zv_Fn z_TB z_cl z_KX zy_M_where zxm271 (7, 420) [.inr 0, .inl x1] [.inl f0, .inl f1, .inl f2, .inl f3, .inl f4] [g0, g1, g2, g3, g4, g5, g6, g7, g8, g9, g10, g11, g12] (some o.1) [.inl f0, .inl f1, .inl o.2.1, .inl o.2.2.1, .inl f4] [g0, g1, o.2.2.2.1, g3, g4, g5, o.2.2.2.2.1, o.2.2.2.2.2.1, o.2.2.2.2.2.2.1, o.2.2.2.2.2.2.2.1, g10, g11, o.2.2.2.2.2.2.2.2] := zv_meth (K := (z_KF13, z_KC13, z_KL13, z_KT13, [], [], [], none)) (FT := z_FT) (MT := z_MT) (n := 2) zxp271 (z_ks13 _ (fun _ h => List.mem_cons_of_mem _ h) _ _ _ _ (fun j r h _ => by cases h)) (fun _ _ => zs_KX_p) zyw_M_where (fun va F G h => by obtain ⟨rfl, _⟩ := h; rfl) (fun va F G h => by obtain ⟨rfl, _⟩ := h; rfl) rfl fun good va F G hB hret hvret hP => by
  obtain ⟨rfl, rfl, rfl⟩ := hP
  have l0 : ∀ (n : Nat) (x1 : Int) (x2 : Int) (x3 : Int) (x4 : Int) (f2 : Int) (f3 : Int) (g2 : (Int → Int)) (g6 : (Int → Int)) (g7 : (Int → Int)) (g8 : (Int → Int)) (g9 : (Int → Int)) (g12 : (Int → Int)) (q : Int × Int × Int × Int × (Int → Int) × (Int → Int) × (Int → Int) × (Int → Int) × (Int → Int) × (Int → Int)), zf_M_where_l0 f0 f1 f4 g0 g1 g3 g4 g5 g10 g11 n x2 x3 x4 f2 f3 g2 g6 g7 g8 g9 g12 = some q → (good 67 [.inr 1000, .inl x1, .inl q.1, .inl q.2.1, .inr 1000] [] [.inl f0, .inl f1, .inl q.2.2.1, .inl q.2.2.2.1, .inl f4] [g0, g1, q.2.2.2.2.1, g3, g4, g5, q.2.2.2.2.2.1, q.2.2.2.2.2.2.1, q.2.2.2.2.2.2.2.1, q.2.2.2.2.2.2.2.2.1, g10, g11, q.2.2.2.2.2.2.2.2.2]) → good 26 [.inr 0, .inl x1, .inl x2, .inl x3, .inl x4] [] [.inl f0, .inl f1, .inl f2, .inl f3, .inl f4] [g0, g1, g2, g3, g4, g5, g6, g7, g8, g9, g10, g11, g12] := by
    intro n
    induction n with
    | zero => intro x1 x2 x3 x4 f2 f3 g2 g6 g7 g8 g9 g12 q h; exact absurd (show none = some q from h) (fun h => by cases h)
    | succ n ih =>
      intro x1 x2 x3 x4 f2 f3 g2 g6 g7 g8 g9 g12 q h hK
      replace h : zf_M_where_l0_b f0 f1 f4 g0 g1 g3 g4 g5 g10 g11 (zf_M_where_l0 f0 f1 f4 g0 g1 g3 g4 g5 g10 g11 n) x2 x3 x4 f2 f3 g2 g6 g7 g8 g9 g12 = some q := h
      unfold zf_M_where_l0_b at h
      refine zv_ild hB zd271_26 rfl rfl ?_
      refine zv_con hB zd271_28 rfl ?_
      refine zv_cge hB zd271_31 rfl (fun hc4 => ?_) (fun hc4 => ?_)
      · rw [if_neg (Int.not_lt.mpr hc4)] at h
        have hq := Option.some.inj h
        subst hq
        refine zv_wk hB (L' := [.inr 1000, .inl x1, .inl x2, .inl x3, .inr 1000]) (F' := [.inl f0, .inl f1, .inl f2, .inl f3, .inl f4]) ⟨fun (h : zv_is (.inr 1000)) => (Nat.lt_irrefl 1000 h).elim, fun _ => rfl, fun _ => rfl, fun _ => rfl, fun (h : zv_is (.inr 1000)) => (Nat.lt_irrefl 1000 h).elim, trivial⟩ ⟨fun _ => rfl, fun _ => rfl, fun _ => rfl, fun _ => rfl, fun _ => rfl, trivial⟩ ?_
        exact hK
      · rw [if_pos hc4] at h
        refine zv_ald hB zd271_34 rfl rfl rfl ?_
        refine zv_ild hB zd271_35 rfl rfl ?_
        obtain ⟨r5, hr5, h⟩ := zi_bind h
        refine zv_cv hB (zv_emq (va2 := [.inr 0, .inl x4]) (F := [.inl f0, .inl f1, .inl f2, .inl f3, .inl f4]) (F' := [.inl f0, .inl f1, .inl r5.2.1, .inl r5.2.2.1, .inl f4]) (G := [g0, g1, g2, g3, g4, g5, g6, g7, g8, g9, g10, g11, g12]) (G' := [g0, g1, r5.2.2.2.1, g3, g4, g5, r5.2.2.2.2.1, r5.2.2.2.2.2.1, r5.2.2.2.2.2.2.1, r5.2.2.2.2.2.2.2.1, g10, g11, r5.2.2.2.2.2.2.2.2]) (ρ := [0, 1, 2, 3, 4, 5, 6, 7, 8, 9, 10, 11, 12, 13]) (φ := [1, 2, 3, 4, 0]) (ψ := [0, 1, 2, 3, 4, 5, 6, 7, 8, 9, 10, 11, 12]) [some 4, some 0, some 1, some 2, some 3] [some 0, some 1, some 2, some 3, some 4, some 5, some 6, some 7, some 8, some 9, some 10, some 11, some 12] zyw_M_canBeTold zyw_M_where zye_M_where (by decide +kernel) (zt_M_canBeTold hr5) ⟨⟨_, rfl, fun _ => rfl⟩, ⟨_, rfl, fun _ => rfl⟩, ⟨_, rfl, fun _ => rfl⟩, ⟨_, rfl, fun _ => rfl⟩, ⟨_, rfl, fun _ => rfl⟩, trivial⟩ ⟨rfl, rfl, rfl, rfl, rfl, rfl, rfl, rfl, rfl, rfl, rfl, rfl, rfl, trivial⟩ rfl rfl rfl rfl rfl rfl rfl) zd271_37 zxt272 rfl (by decide) (by decide) rfl ?_
        refine zv_zne hB zd271_40 rfl (fun hc6 => ?_) (fun hc6 => ?_)
        · rw [if_neg hc6] at h
          refine zv_ild hB zd271_46 rfl rfl ?_
          refine zv_zne hB zd271_47 rfl (fun hc7 => ?_) (fun hc7 => ?_)
          · rw [if_neg hc7] at h
            refine zv_ild hB zd271_55 rfl rfl ?_
            refine zv_ist hB zd271_56 rfl rfl rfl ?_
            refine zv_ild hB zd271_57 rfl rfl ?_
            refine zv_con hB zd271_58 rfl ?_
            refine zv_addw hB zd271_59 ?_
            refine zv_ist hB zd271_60 rfl rfl rfl ?_
            refine zv_iincw hB zd271_61 rfl rfl ?_
            refine zv_goto hB zd271_64 rfl ?_
            exact ih _ _ _ _ _ _ _ _ _ _ _ _ q h hK
          · rw [if_pos hc7] at h
            refine zv_ild hB zd271_50 rfl rfl ?_
            refine zv_goto hB zd271_52 rfl ?_
            refine zv_ist hB zd271_56 rfl rfl rfl ?_
            refine zv_ild hB zd271_57 rfl rfl ?_
            refine zv_con hB zd271_58 rfl ?_
            refine zv_addw hB zd271_59 ?_
            refine zv_ist hB zd271_60 rfl rfl rfl ?_
            refine zv_iincw hB zd271_61 rfl rfl ?_
            refine zv_goto hB zd271_64 rfl ?_
            exact ih _ _ _ _ _ _ _ _ _ _ _ _ q h hK
        · rw [if_pos hc6] at h
          refine zv_goto hB zd271_43 rfl ?_
          refine zv_iincw hB zd271_61 rfl rfl ?_
          refine zv_goto hB zd271_64 rfl ?_
          exact ih _ _ _ _ _ _ _ _ _ _ _ _ q h hK
  unfold zf_M_where at h
  refine zv_ild hB zd271_0 rfl rfl ?_
  refine zv_con hB zd271_1 rfl ?_
  refine zv_con hB zd271_2 rfl ?_
  obtain ⟨r1, hr1, h⟩ := zi_bind h
  refine zv_cs hB (zv_emq (va2 := [.inl x1, .inl 0, .inl 1]) (F := [.inl f0, .inl f1, .inl f2, .inl f3, .inl f4]) (F' := [.inl f0, .inl f1, .inl f2, .inl f3, .inl f4]) (G := [g0, g1, g2, g3, g4, g5, g6, g7, g8, g9, g10, g11, g12]) (G' := [g0, g1, g2, g3, g4, g5, g6, g7, g8, g9, g10, g11, g12]) (ρ := []) (φ := []) (ψ := []) [none, none, none, none, none] [none, none, none, none, none, none, none, none, none, none, none, none, none] zyw_M_in zyw_M_where zye_M_where (by decide +kernel) (zt_M_in hr1) trivial trivial rfl rfl rfl rfl rfl rfl rfl) zd271_3 zxt200 rfl (by decide) (by decide) rfl ?_
  refine zv_zeq hB zd271_6 rfl (fun hc2 => ?_) (fun hc2 => ?_)
  · rw [if_pos hc2] at h
    refine zv_con hB zd271_16 rfl ?_
    have hw := Option.some.inj h
    subst hw
    exact hret _ _ _ _ _ zd271_17 (by trivial) ⟨rfl, rfl, rfl⟩
  · rw [if_neg hc2] at h
    refine zv_ald hB zd271_9 rfl rfl rfl ?_
    refine zv_getf hB zd271_10 rfl rfl (fun _ _ => ?_)
    refine zv_zne hB zd271_13 rfl (fun hc3 => ?_) (fun hc3 => ?_)
    · rw [if_neg hc3] at h
      refine zv_con hB zd271_18 rfl ?_
      refine zv_ist hB zd271_19 rfl rfl rfl ?_
      refine zv_con hB zd271_20 rfl ?_
      refine zv_ist hB zd271_22 rfl rfl rfl ?_
      refine zv_con hB zd271_23 rfl ?_
      refine zv_ist hB zd271_24 rfl rfl rfl ?_
      obtain ⟨q8, hq8, h⟩ := zi_bind h
      refine l0 _ _ _ _ _ _ _ _ _ _ _ _ _ q8 hq8 ?_
      show good 67 [.inr 1000, .inl x1, .inl q8.1, .inl q8.2.1, .inr 1000] [] [.inl f0, .inl f1, .inl q8.2.2.1, .inl q8.2.2.2.1, .inl f4] [g0, g1, q8.2.2.2.2.1, g3, g4, g5, q8.2.2.2.2.2.1, q8.2.2.2.2.2.2.1, q8.2.2.2.2.2.2.2.1, q8.2.2.2.2.2.2.2.2.1, g10, g11, q8.2.2.2.2.2.2.2.2.2]
      refine zv_ild hB zd271_67 rfl rfl ?_
      refine zv_zne hB zd271_68 rfl (fun hc9 => ?_) (fun hc9 => ?_)
      · rw [if_neg hc9] at h
        refine zv_ild hB zd271_75 rfl rfl ?_
        have hw := Option.some.inj h
        subst hw
        exact hret _ _ _ _ _ zd271_76 (by trivial) ⟨rfl, rfl, rfl⟩
      · rw [if_pos hc9] at h
        refine zv_ild hB zd271_71 rfl rfl ?_
        refine zv_goto hB zd271_72 rfl ?_
        have hw := Option.some.inj h
        subst hw
        exact hret _ _ _ _ _ zd271_76 (by trivial) ⟨rfl, rfl, rfl⟩
    · rw [if_pos hc3] at h
      refine zv_con hB zd271_16 rfl ?_
      have hw := Option.some.inj h
      subst hw
      exact hret _ _ _ _ _ zd271_17 (by trivial) ⟨rfl, rfl, rfl⟩
/-! M_when (II)I -/
-- names: 0 StarTalesModel('arg', 0), 1 (0, 422)(0, 12, 0), 2 (0, 14)(0, 12, 21), 3 (0, 13)(0, 12, 26), 4 (0, 14)(0, 12, 23), 5 (0, 14)(0, 12, 24), 6 (0, 220)(0, 12, 20), 7 (0, 220)(0, 12, 25), 8 (0, 24)(0, 12, 28), 9 (0, 8)(0, 12, 38), 10 (0, 8)(0, 12, 39), 11 (0, 12)(0, 12, 34), 12 (0, 12)(0, 12, 35), 13 (0, 8)(0, 12, 40)
-- fields: f0 = 0.taleLines_, f1 = 0.clauses_, f2 = 0.seen0_, f3 = 0.nameMany_, f4 = 0.namesIn_; arrays: g0 = 1, g1 = 2, g2 = 3, g3 = 4, g4 = 5, g5 = 6, g6 = 7, g7 = 8, g8 = 9, g9 = 10, g10 = 11, g11 = 12, g12 = 13; out: [('ret', None), ('f', 2), ('f', 3), ('g', 0), ('g', 2), ('g', 6), ('g', 7), ('g', 8), ('g', 9), ('g', 12)]
abbrev zy_M_when : zNL := (14, [(0, 12)], [(0, 12, 31, 0), (0, 12, 13, 1), (0, 12, 27, 2), (0, 12, 41, 3), (0, 12, 33, 4)], [(0, 12, 0, 1), (0, 12, 21, 2), (0, 12, 26, 3), (0, 12, 23, 4), (0, 12, 24, 5), (0, 12, 20, 6), (0, 12, 25, 7), (0, 12, 28, 8), (0, 12, 38, 9), (0, 12, 39, 10), (0, 12, 34, 11), (0, 12, 35, 12), (0, 12, 40, 13)], [(1, 0, 422, 0), (2, 0, 14, 1), (3, 0, 13, 2), (4, 0, 14, 3), (5, 0, 14, 4), (6, 0, 220, 5), (7, 0, 220, 6), (8, 0, 24, 7), (9, 0, 8, 8), (10, 0, 8, 9), (11, 0, 12, 10), (12, 0, 12, 11), (13, 0, 8, 12)])
theorem zyw_M_when : zv_wf zy_M_when = true := by decide +kernel
theorem zye_M_when : zv_ek2 zy_M_when = true := by decide +kernel
def zf_M_when_l0_b (x1 : Int) (x2 : Int) (f0 : Int) (f1 : Int) (f4 : Int) (g1 : (Int → Int)) (g3 : (Int → Int)) (g4 : (Int → Int)) (g5 : (Int → Int)) (g10 : (Int → Int)) (g11 : (Int → Int)) (rec : Int → Int → Int → Int → (Int → Int) → (Int → Int) → (Int → Int) → (Int → Int) → (Int → Int) → (Int → Int) → (Int → Int) → Option (Int × Int × Int × (Int → Int) × (Int → Int) × (Int → Int) × (Int → Int) × (Int → Int) × (Int → Int) × (Int → Int))) (x4 : Int) (x5 : Int) (f2 : Int) (f3 : Int) (g0 : (Int → Int)) (g2 : (Int → Int)) (g6 : (Int → Int)) (g7 : (Int → Int)) (g8 : (Int → Int)) (g9 : (Int → Int)) (g12 : (Int → Int)) : Option (Int × Int × Int × (Int → Int) × (Int → Int) × (Int → Int) × (Int → Int) × (Int → Int) × (Int → Int) × (Int → Int)) := if x5 < 24 then ((zf_M_canBeTold (zi_w ((zi_w (24 * x2)) + x1)) f1 f2 f3 f4 f0 (zv_up g0 128 x5) g1 g2 g3 g4 g5 g6 g7 g8 g9 g10 g11 g12).bind fun r5 => (if r5.1 = 0 then (rec x4 (zi_w (x5 + 1)) r5.2.1 r5.2.2.1 (zv_up g0 128 x5) r5.2.2.2.1 r5.2.2.2.2.1 r5.2.2.2.2.2.1 r5.2.2.2.2.2.2.1 r5.2.2.2.2.2.2.2.1 r5.2.2.2.2.2.2.2.2) else (rec (zi_or x4 (zi_shl 1 x5)) (zi_w (x5 + 1)) r5.2.1 r5.2.2.1 (zv_up g0 128 x5) r5.2.2.2.1 r5.2.2.2.2.1 r5.2.2.2.2.2.1 r5.2.2.2.2.2.2.1 r5.2.2.2.2.2.2.2.1 r5.2.2.2.2.2.2.2.2))) else (some (x4, f2, f3, g0, g2, g6, g7, g8, g9, g12))
def zf_M_when_l0 (x1 : Int) (x2 : Int) (f0 : Int) (f1 : Int) (f4 : Int) (g1 : (Int → Int)) (g3 : (Int → Int)) (g4 : (Int → Int)) (g5 : (Int → Int)) (g10 : (Int → Int)) (g11 : (Int → Int)) : Nat → Int → Int → Int → Int → (Int → Int) → (Int → Int) → (Int → Int) → (Int → Int) → (Int → Int) → (Int → Int) → (Int → Int) → Option (Int × Int × Int × (Int → Int) × (Int → Int) × (Int → Int) × (Int → Int) × (Int → Int) × (Int → Int) × (Int → Int))
  | 0, _, _, _, _, _, _, _, _, _, _, _ => none
  | n + 1, x4, x5, f2, f3, g0, g2, g6, g7, g8, g9, g12 => zf_M_when_l0_b x1 x2 f0 f1 f4 g1 g3 g4 g5 g10 g11 (zf_M_when_l0 x1 x2 f0 f1 f4 g1 g3 g4 g5 g10 g11 n) x4 x5 f2 f3 g0 g2 g6 g7 g8 g9 g12
def zf_M_when (x1 : Int) (x2 : Int) (f0 : Int) (f1 : Int) (f2 : Int) (f3 : Int) (f4 : Int) (g0 : (Int → Int)) (g1 : (Int → Int)) (g2 : (Int → Int)) (g3 : (Int → Int)) (g4 : (Int → Int)) (g5 : (Int → Int)) (g6 : (Int → Int)) (g7 : (Int → Int)) (g8 : (Int → Int)) (g9 : (Int → Int)) (g10 : (Int → Int)) (g11 : (Int → Int)) (g12 : (Int → Int)) : Option (Int × Int × Int × (Int → Int) × (Int → Int) × (Int → Int) × (Int → Int) × (Int → Int) × (Int → Int) × (Int → Int)) := (zf_M_isPlace x1 x2).bind fun r1 => (if r1 = 0 then (some ((-1), f2, f3, g0, g2, g6, g7, g8, g9, g12)) else (if f0 = 0 then (some ((-1), f2, f3, g0, g2, g6, g7, g8, g9, g12)) else ((zf_M_when_l0 x1 x2 f0 f1 f4 g1 g3 g4 g5 g10 g11 zi_fu 0 0 f2 f3 g0 g2 g6 g7 g8 g9 g12).bind fun q7 => (some (q7.1, q7.2.1, q7.2.2.1, (zv_up q7.2.2.2.1 128 (g0 128)), q7.2.2.2.2.1, q7.2.2.2.2.2.1, q7.2.2.2.2.2.2.1, q7.2.2.2.2.2.2.2.1, q7.2.2.2.2.2.2.2.2.1, q7.2.2.2.2.2.2.2.2.2)))))
theorem zd273_0 : decode zxm273.2.1 0 = .ok (.iload_n 1, 1) := by decide +kernel
theorem zd273_1 : decode zxm273.2.1 1 = .ok (.iload_n 2, 1) := by decide +kernel
theorem zd273_2 : decode zxm273.2.1 2 = .ok (.invokestatic 154, 3) := by decide +kernel
theorem zd273_5 : decode zxm273.2.1 5 = .ok (.ifCond .eq 10, 3) := by decide +kernel
theorem zd273_8 : decode zxm273.2.1 8 = .ok (.aload_n 0, 1) := by decide +kernel
theorem zd273_9 : decode zxm273.2.1 9 = .ok (.getfield 351, 3) := by decide +kernel
theorem zd273_12 : decode zxm273.2.1 12 = .ok (.ifCond .ne 5, 3) := by decide +kernel
theorem zd273_15 : decode zxm273.2.1 15 = .ok (.iconst (-1), 1) := by decide +kernel
theorem zd273_16 : decode zxm273.2.1 16 = .ok (.ireturn, 1) := by decide +kernel
theorem zd273_17 : decode zxm273.2.1 17 = .ok (.aload_n 0, 1) := by decide +kernel
theorem zd273_18 : decode zxm273.2.1 18 = .ok (.getfield 7, 3) := by decide +kernel
theorem zd273_21 : decode zxm273.2.1 21 = .ok (.sipush 128, 3) := by decide +kernel
theorem zd273_24 : decode zxm273.2.1 24 = .ok (.iaload, 1) := by decide +kernel
theorem zd273_25 : decode zxm273.2.1 25 = .ok (.istore_n 3, 1) := by decide +kernel
theorem zd273_26 : decode zxm273.2.1 26 = .ok (.iconst 0, 1) := by decide +kernel
theorem zd273_27 : decode zxm273.2.1 27 = .ok (.istore 4, 2) := by decide +kernel
theorem zd273_29 : decode zxm273.2.1 29 = .ok (.iconst 0, 1) := by decide +kernel
theorem zd273_30 : decode zxm273.2.1 30 = .ok (.istore 5, 2) := by decide +kernel
theorem zd273_32 : decode zxm273.2.1 32 = .ok (.iload 5, 2) := by decide +kernel
theorem zd273_34 : decode zxm273.2.1 34 = .ok (.bipush 24, 2) := by decide +kernel
theorem zd273_36 : decode zxm273.2.1 36 = .ok (.if_icmp .ge 41, 3) := by decide +kernel
theorem zd273_39 : decode zxm273.2.1 39 = .ok (.aload_n 0, 1) := by decide +kernel
theorem zd273_40 : decode zxm273.2.1 40 = .ok (.getfield 7, 3) := by decide +kernel
theorem zd273_43 : decode zxm273.2.1 43 = .ok (.sipush 128, 3) := by decide +kernel
theorem zd273_46 : decode zxm273.2.1 46 = .ok (.iload 5, 2) := by decide +kernel
theorem zd273_48 : decode zxm273.2.1 48 = .ok (.iastore, 1) := by decide +kernel
theorem zd273_49 : decode zxm273.2.1 49 = .ok (.aload_n 0, 1) := by decide +kernel
theorem zd273_50 : decode zxm273.2.1 50 = .ok (.bipush 24, 2) := by decide +kernel
theorem zd273_52 : decode zxm273.2.1 52 = .ok (.iload_n 2, 1) := by decide +kernel
theorem zd273_53 : decode zxm273.2.1 53 = .ok (.imul, 1) := by decide +kernel
theorem zd273_54 : decode zxm273.2.1 54 = .ok (.iload_n 1, 1) := by decide +kernel
theorem zd273_55 : decode zxm273.2.1 55 = .ok (.iadd, 1) := by decide +kernel
theorem zd273_56 : decode zxm273.2.1 56 = .ok (.invokevirtual 369, 3) := by decide +kernel
theorem zd273_59 : decode zxm273.2.1 59 = .ok (.ifCond .eq 12, 3) := by decide +kernel
theorem zd273_62 : decode zxm273.2.1 62 = .ok (.iload 4, 2) := by decide +kernel
theorem zd273_64 : decode zxm273.2.1 64 = .ok (.iconst 1, 1) := by decide +kernel
theorem zd273_65 : decode zxm273.2.1 65 = .ok (.iload 5, 2) := by decide +kernel
theorem zd273_67 : decode zxm273.2.1 67 = .ok (.ishl, 1) := by decide +kernel
theorem zd273_68 : decode zxm273.2.1 68 = .ok (.ior, 1) := by decide +kernel
theorem zd273_69 : decode zxm273.2.1 69 = .ok (.istore 4, 2) := by decide +kernel
theorem zd273_71 : decode zxm273.2.1 71 = .ok (.iinc 5 1, 3) := by decide +kernel
theorem zd273_74 : decode zxm273.2.1 74 = .ok (.goto (-42), 3) := by decide +kernel
theorem zd273_77 : decode zxm273.2.1 77 = .ok (.aload_n 0, 1) := by decide +kernel
theorem zd273_78 : decode zxm273.2.1 78 = .ok (.getfield 7, 3) := by decide +kernel
theorem zd273_81 : decode zxm273.2.1 81 = .ok (.sipush 128, 3) := by decide +kernel
theorem zd273_84 : decode zxm273.2.1 84 = .ok (.iload_n 3, 1) := by decide +kernel
theorem zd273_85 : decode zxm273.2.1 85 = .ok (.iastore, 1) := by decide +kernel
theorem zd273_86 : decode zxm273.2.1 86 = .ok (.iload 4, 2) := by decide +kernel
theorem zd273_88 : decode zxm273.2.1 88 = .ok (.ireturn, 1) := by decide +kernel
theorem zt_M_when {x1 : Int} {x2 : Int} {f0 : Int} {f1 : Int} {f2 : Int} {f3 : Int} {f4 : Int} {g0 : (Int → Int)} {g1 : (Int → Int)} {g2 : (Int → Int)} {g3 : (Int → Int)} {g4 : (Int → Int)} {g5 : (Int → Int)} {g6 : (Int → Int)} {g7 : (Int → Int)} {g8 : (Int → Int)} {g9 : (Int → Int)} {g10 : (Int → Int)} {g11 : (Int → Int)} {g12 : (Int → Int)} {o : Int × Int × Int × (Int → Int) × (Int → Int) × (Int → Int) × (Int → Int) × (Int → Int) × (Int → Int) × (Int → Int)} (h : zf_M_when x1 x2 f0 f1 f2 f3 f4 g0 g1 g2 g3 g4 g5 g6 g7 g8 g9 g10 g11 g12 = some o) : zv_Fn z_TB z_cl z_KX zy_M_when zxm273 (7, 420) [.inr 0, .inl x1, .inl x2] [.inl f0, .inl f1, .inl f2, .inl f3, .inl f4] [g0, g1, g2, g3, g4, g5, g6, g7, g8, g9, g10, g11, g12] (some o.1) [.inl f0, .inl f1, .inl o.2.1, .inl o.2.2.1, .inl f4] [o.2.2.2.1, g1, o.2.2.2.2.1, g3, g4, g5, o.2.2.2.2.2.1, o.2.2.2.2.2.2.1, o.2.2.2.2.2.2.2.1, o.2.2.2.2.2.2.2.2.1, g10, g11, o.2.2.2.2.2.2.2.2.2] := zv_meth (K := (z_KF13, z_KC13, z_KL13, z_KT13, [], [], [], none)) (FT := z_FT) (MT := z_MT) (n := 3) zxp273 (z_ks13 _ (fun _ h => List.mem_cons_of_mem _ h) _ _ _ _ (fun j r h _ => by cases h)) (fun _ _ => zs_KX_p) zyw_M_when (fun va F G h => by obtain ⟨rfl, _⟩ := h; rfl) (fun va F G h => by obtain ⟨rfl, _⟩ := h; rfl) rfl fun good va F G hB hret hvret hP => by
  obtain ⟨rfl, rfl, rfl⟩ := hP
  have l0 : ∀ (n : Nat) (x1 : Int) (x2 : Int) (x3 : Int) (x4 : Int) (x5 : Int) (f2 : Int) (f3 : Int) (g0 : (Int → Int)) (g2 : (Int → Int)) (g6 : (Int → Int)) (g7 : (Int → Int)) (g8 : (Int → Int)) (g9 : (Int → Int)) (g12 : (Int → Int)) (q : Int × Int × Int × (Int → Int) × (Int → Int) × (Int → Int) × (Int → Int) × (Int → Int) × (Int → Int) × (Int → Int)), zf_M_when_l0 x1 x2 f0 f1 f4 g1 g3 g4 g5 g10 g11 n x4 x5 f2 f3 g0 g2 g6 g7 g8 g9 g12 = some q → (good 77 [.inr 0, .inr 1000, .inr 1000, .inl x3, .inl q.1, .inr 1000] [] [.inl f0, .inl f1, .inl q.2.1, .inl q.2.2.1, .inl f4] [q.2.2.2.1, g1, q.2.2.2.2.1, g3, g4, g5, q.2.2.2.2.2.1, q.2.2.2.2.2.2.1, q.2.2.2.2.2.2.2.1, q.2.2.2.2.2.2.2.2.1, g10, g11, q.2.2.2.2.2.2.2.2.2]) → good 32 [.inr 0, .inl x1, .inl x2, .inl x3, .inl x4, .inl x5] [] [.inl f0, .inl f1, .inl f2, .inl f3, .inl f4] [g0, g1, g2, g3, g4, g5, g6, g7, g8, g9, g10, g11, g12] := by
    intro n
    induction n with
    | zero => intro x1 x2 x3 x4 x5 f2 f3 g0 g2 g6 g7 g8 g9 g12 q h; exact absurd (show none = some q from h) (fun h => by cases h)
    | succ n ih =>
      intro x1 x2 x3 x4 x5 f2 f3 g0 g2 g6 g7 g8 g9 g12 q h hK
      replace h : zf_M_when_l0_b x1 x2 f0 f1 f4 g1 g3 g4 g5 g10 g11 (zf_M_when_l0 x1 x2 f0 f1 f4 g1 g3 g4 g5 g10 g11 n) x4 x5 f2 f3 g0 g2 g6 g7 g8 g9 g12 = some q := h
      unfold zf_M_when_l0_b at h
      refine zv_ild hB zd273_32 rfl rfl ?_
      refine zv_con hB zd273_34 rfl ?_
      refine zv_cge hB zd273_36 rfl (fun hc4 => ?_) (fun hc4 => ?_)
      · rw [if_neg (Int.not_lt.mpr hc4)] at h
        have hq := Option.some.inj h
        subst hq
        refine zv_wk hB (L' := [.inr 0, .inr 1000, .inr 1000, .inl x3, .inl x4, .inr 1000]) (F' := [.inl f0, .inl f1, .inl f2, .inl f3, .inl f4]) ⟨fun _ => rfl, fun (h : zv_is (.inr 1000)) => (Nat.lt_irrefl 1000 h).elim, fun (h : zv_is (.inr 1000)) => (Nat.lt_irrefl 1000 h).elim, fun _ => rfl, fun _ => rfl, fun (h : zv_is (.inr 1000)) => (Nat.lt_irrefl 1000 h).elim, trivial⟩ ⟨fun _ => rfl, fun _ => rfl, fun _ => rfl, fun _ => rfl, fun _ => rfl, trivial⟩ ?_
        exact hK
      · rw [if_pos hc4] at h
        refine zv_ald hB zd273_39 rfl rfl rfl ?_
        refine zv_getr hB zd273_40 rfl ?_
        refine zv_con hB zd273_43 rfl ?_
        refine zv_ild hB zd273_46 rfl rfl ?_
        refine zv_iast hB zd273_48 rfl rfl (by decide) (by decide) ?_
        refine zv_ald hB zd273_49 rfl rfl rfl ?_
        refine zv_con hB zd273_50 rfl ?_
        refine zv_ild hB zd273_52 rfl rfl ?_
        refine zv_mulw hB zd273_53 ?_
        refine zv_ild hB zd273_54 rfl rfl ?_
        refine zv_addw hB zd273_55 ?_
        obtain ⟨r5, hr5, h⟩ := zi_bind h
        refine zv_cv hB (zv_emq (va2 := [.inr 0, .inl (zi_w ((zi_w (24 * x2)) + x1))]) (F := [.inl f0, .inl f1, .inl f2, .inl f3, .inl f4]) (F' := [.inl f0, .inl f1, .inl r5.2.1, .inl r5.2.2.1, .inl f4]) (G := [(zv_up g0 128 x5), g1, g2, g3, g4, g5, g6, g7, g8, g9, g10, g11, g12]) (G' := [(zv_up g0 128 x5), g1, r5.2.2.2.1, g3, g4, g5, r5.2.2.2.2.1, r5.2.2.2.2.2.1, r5.2.2.2.2.2.2.1, r5.2.2.2.2.2.2.2.1, g10, g11, r5.2.2.2.2.2.2.2.2]) (ρ := [0, 1, 2, 3, 4, 5, 6, 7, 8, 9, 10, 11, 12, 13]) (φ := [1, 2, 3, 4, 0]) (ψ := [0, 1, 2, 3, 4, 5, 6, 7, 8, 9, 10, 11, 12]) [some 4, some 0, some 1, some 2, some 3] [some 0, some 1, some 2, some 3, some 4, some 5, some 6, some 7, some 8, some 9, some 10, some 11, some 12] zyw_M_canBeTold zyw_M_when zye_M_when (by decide +kernel) (zt_M_canBeTold hr5) ⟨⟨_, rfl, fun _ => rfl⟩, ⟨_, rfl, fun _ => rfl⟩, ⟨_, rfl, fun _ => rfl⟩, ⟨_, rfl, fun _ => rfl⟩, ⟨_, rfl, fun _ => rfl⟩, trivial⟩ ⟨rfl, rfl, rfl, rfl, rfl, rfl, rfl, rfl, rfl, rfl, rfl, rfl, rfl, trivial⟩ rfl rfl rfl rfl rfl rfl rfl) zd273_56 zxt272 rfl (by decide) (by decide) rfl ?_
        refine zv_zeq hB zd273_59 rfl (fun hc6 => ?_) (fun hc6 => ?_)
        · rw [if_pos hc6] at h
          refine zv_iincw hB zd273_71 rfl rfl ?_
          refine zv_goto hB zd273_74 rfl ?_
          exact ih _ _ _ _ _ _ _ _ _ _ _ _ _ _ q h hK
        · rw [if_neg hc6] at h
          refine zv_ild hB zd273_62 rfl rfl ?_
          refine zv_con hB zd273_64 rfl ?_
          refine zv_ild hB zd273_65 rfl rfl ?_
          refine zv_shlw hB zd273_67 ?_
          refine zv_orw hB zd273_68 ?_
          refine zv_ist hB zd273_69 rfl rfl rfl ?_
          refine zv_iincw hB zd273_71 rfl rfl ?_
          refine zv_goto hB zd273_74 rfl ?_
          exact ih _ _ _ _ _ _ _ _ _ _ _ _ _ _ q h hK
  unfold zf_M_when at h
  refine zv_ild hB zd273_0 rfl rfl ?_
  refine zv_ild hB zd273_1 rfl rfl ?_
  obtain ⟨r1, hr1, h⟩ := zi_bind h
  refine zv_cs hB (zv_emq (va2 := [.inl x1, .inl x2]) (F := [.inl f0, .inl f1, .inl f2, .inl f3, .inl f4]) (F' := [.inl f0, .inl f1, .inl f2, .inl f3, .inl f4]) (G := [g0, g1, g2, g3, g4, g5, g6, g7, g8, g9, g10, g11, g12]) (G' := [g0, g1, g2, g3, g4, g5, g6, g7, g8, g9, g10, g11, g12]) (ρ := []) (φ := []) (ψ := []) [none, none, none, none, none] [none, none, none, none, none, none, none, none, none, none, none, none, none] zyw_M_isPlace zyw_M_when zye_M_when (by decide +kernel) (zt_M_isPlace hr1) trivial trivial rfl rfl rfl rfl rfl rfl rfl) zd273_2 zxt201 rfl (by decide) (by decide) rfl ?_
  refine zv_zeq hB zd273_5 rfl (fun hc2 => ?_) (fun hc2 => ?_)
  · rw [if_pos hc2] at h
    refine zv_con hB zd273_15 rfl ?_
    have hw := Option.some.inj h
    subst hw
    exact hret _ _ _ _ _ zd273_16 (by trivial) ⟨rfl, rfl, rfl⟩
  · rw [if_neg hc2] at h
    refine zv_ald hB zd273_8 rfl rfl rfl ?_
    refine zv_getf hB zd273_9 rfl rfl (fun _ _ => ?_)
    refine zv_zne hB zd273_12 rfl (fun hc3 => ?_) (fun hc3 => ?_)
    · rw [if_neg hc3] at h
      refine zv_ald hB zd273_17 rfl rfl rfl ?_
      refine zv_getr hB zd273_18 rfl ?_
      refine zv_con hB zd273_21 rfl ?_
      refine zv_iald hB zd273_24 rfl rfl (by decide) (by decide) (fun _ _ => ?_)
      refine zv_ist hB zd273_25 rfl rfl rfl ?_
      refine zv_con hB zd273_26 rfl ?_
      refine zv_ist hB zd273_27 rfl rfl rfl ?_
      refine zv_con hB zd273_29 rfl ?_
      refine zv_ist hB zd273_30 rfl rfl rfl ?_
      obtain ⟨q7, hq7, h⟩ := zi_bind h
      refine l0 _ _ _ _ _ _ _ _ _ _ _ _ _ _ _ q7 hq7 ?_
      show good 77 [.inr 0, .inr 1000, .inr 1000, .inl (g0 128), .inl q7.1, .inr 1000] [] [.inl f0, .inl f1, .inl q7.2.1, .inl q7.2.2.1, .inl f4] [q7.2.2.2.1, g1, q7.2.2.2.2.1, g3, g4, g5, q7.2.2.2.2.2.1, q7.2.2.2.2.2.2.1, q7.2.2.2.2.2.2.2.1, q7.2.2.2.2.2.2.2.2.1, g10, g11, q7.2.2.2.2.2.2.2.2.2]
      refine zv_ald hB zd273_77 rfl rfl rfl ?_
      refine zv_getr hB zd273_78 rfl ?_
      refine zv_con hB zd273_81 rfl ?_
      refine zv_ild hB zd273_84 rfl rfl ?_
      refine zv_iast hB zd273_85 rfl rfl (by decide) (by decide) ?_
      refine zv_ild hB zd273_86 rfl rfl ?_
      have hw := Option.some.inj h
      subst hw
      exact hret _ _ _ _ _ zd273_88 (by trivial) ⟨rfl, rfl, rfl⟩
    · rw [if_pos hc3] at h
      refine zv_con hB zd273_15 rfl ?_
      have hw := Option.some.inj h
      subst hw
      exact hret _ _ _ _ _ zd273_16 (by trivial) ⟨rfl, rfl, rfl⟩
/-! M_partOf (II)I -/
-- names: 0 StarTalesModel('arg', 0), 1 (0, 422)(0, 12, 0)
-- fields: ; arrays: g0 = 1; out: [('ret', None)]
abbrev zy_M_partOf : zNL := (2, [(0, 12)], [], [(0, 12, 0, 1)], [(1, 0, 422, 0)])
theorem zyw_M_partOf : zv_wf zy_M_partOf = true := by decide +kernel
theorem zye_M_partOf : zv_ek2 zy_M_partOf = true := by decide +kernel
def zf_M_partOf (x1 : Int) (x2 : Int) (g0 : (Int → Int)) : Option (Int) := (zf_M_standsAt x2 g0).bind fun r1 => ((zf_M_toRight (zi_rem x1 24) r1).bind fun r2 => (cond (zi_ix (zi_w (24 + x2)) 422) (cond (zi_ix (zi_w (48 + x2)) 422) (some (zi_w ((zi_w ((zi_w (1000 * (zi_w (r2 + 12)))) + (zi_w (10 * (zi_w ((zi_w ((g0 (zi_w (24 + x2))) - (zi_div x1 24))) + 12)))))) + (g0 (zi_w (48 + x2)))))) none) none))
theorem zd277_0 : decode zxm277.2.1 0 = .ok (.sipush 1000, 3) := by decide +kernel
theorem zd277_3 : decode zxm277.2.1 3 = .ok (.iload_n 1, 1) := by decide +kernel
theorem zd277_4 : decode zxm277.2.1 4 = .ok (.bipush 24, 2) := by decide +kernel
theorem zd277_6 : decode zxm277.2.1 6 = .ok (.irem, 1) := by decide +kernel
theorem zd277_7 : decode zxm277.2.1 7 = .ok (.aload_n 0, 1) := by decide +kernel
theorem zd277_8 : decode zxm277.2.1 8 = .ok (.iload_n 2, 1) := by decide +kernel
theorem zd277_9 : decode zxm277.2.1 9 = .ok (.invokevirtual 281, 3) := by decide +kernel
theorem zd277_12 : decode zxm277.2.1 12 = .ok (.invokestatic 142, 3) := by decide +kernel
theorem zd277_15 : decode zxm277.2.1 15 = .ok (.bipush 12, 2) := by decide +kernel
theorem zd277_17 : decode zxm277.2.1 17 = .ok (.iadd, 1) := by decide +kernel
theorem zd277_18 : decode zxm277.2.1 18 = .ok (.imul, 1) := by decide +kernel
theorem zd277_19 : decode zxm277.2.1 19 = .ok (.bipush 10, 2) := by decide +kernel
theorem zd277_21 : decode zxm277.2.1 21 = .ok (.aload_n 0, 1) := by decide +kernel
theorem zd277_22 : decode zxm277.2.1 22 = .ok (.getfield 7, 3) := by decide +kernel
theorem zd277_25 : decode zxm277.2.1 25 = .ok (.bipush 24, 2) := by decide +kernel
theorem zd277_27 : decode zxm277.2.1 27 = .ok (.iload_n 2, 1) := by decide +kernel
theorem zd277_28 : decode zxm277.2.1 28 = .ok (.iadd, 1) := by decide +kernel
theorem zd277_29 : decode zxm277.2.1 29 = .ok (.iaload, 1) := by decide +kernel
theorem zd277_30 : decode zxm277.2.1 30 = .ok (.iload_n 1, 1) := by decide +kernel
theorem zd277_31 : decode zxm277.2.1 31 = .ok (.bipush 24, 2) := by decide +kernel
theorem zd277_33 : decode zxm277.2.1 33 = .ok (.idiv, 1) := by decide +kernel
theorem zd277_34 : decode zxm277.2.1 34 = .ok (.isub, 1) := by decide +kernel
theorem zd277_35 : decode zxm277.2.1 35 = .ok (.bipush 12, 2) := by decide +kernel
theorem zd277_37 : decode zxm277.2.1 37 = .ok (.iadd, 1) := by decide +kernel
theorem zd277_38 : decode zxm277.2.1 38 = .ok (.imul, 1) := by decide +kernel
theorem zd277_39 : decode zxm277.2.1 39 = .ok (.iadd, 1) := by decide +kernel
theorem zd277_40 : decode zxm277.2.1 40 = .ok (.aload_n 0, 1) := by decide +kernel
theorem zd277_41 : decode zxm277.2.1 41 = .ok (.getfield 7, 3) := by decide +kernel
theorem zd277_44 : decode zxm277.2.1 44 = .ok (.bipush 48, 2) := by decide +kernel
theorem zd277_46 : decode zxm277.2.1 46 = .ok (.iload_n 2, 1) := by decide +kernel
theorem zd277_47 : decode zxm277.2.1 47 = .ok (.iadd, 1) := by decide +kernel
theorem zd277_48 : decode zxm277.2.1 48 = .ok (.iaload, 1) := by decide +kernel
theorem zd277_49 : decode zxm277.2.1 49 = .ok (.iadd, 1) := by decide +kernel
theorem zd277_50 : decode zxm277.2.1 50 = .ok (.ireturn, 1) := by decide +kernel
theorem zt_M_partOf {x1 : Int} {x2 : Int} {g0 : (Int → Int)} {o : Int} (h : zf_M_partOf x1 x2 g0 = some o) : zv_Fn z_TB z_cl z_KX zy_M_partOf zxm277 (1, 60) [.inr 0, .inl x1, .inl x2] [] [g0] (some o) [] [g0] := zv_meth (K := (z_KF13, z_KC13, z_KL13, z_KT13, [], [], [], none)) (FT := z_FT) (MT := z_MT) (n := 3) zxp277 (z_ks13 _ (fun _ h => List.mem_cons_of_mem _ h) _ _ _ _ (fun j r h _ => by cases h)) (fun _ _ => zs_KX_p) zyw_M_partOf (fun va F G h => by obtain ⟨rfl, _⟩ := h; rfl) (fun va F G h => by obtain ⟨rfl, _⟩ := h; rfl) rfl fun good va F G hB hret hvret hP => by
  obtain ⟨rfl, rfl, rfl⟩ := hP
  unfold zf_M_partOf at h
  refine zv_con hB zd277_0 rfl ?_
  refine zv_ild hB zd277_3 rfl rfl ?_
  refine zv_con hB zd277_4 rfl ?_
  refine zv_remw hB zd277_6 (by decide) ?_
  refine zv_ald hB zd277_7 rfl rfl rfl ?_
  refine zv_ild hB zd277_8 rfl rfl ?_
  obtain ⟨r1, hr1, h⟩ := zi_bind h
  refine zv_cv hB (zv_emq (va2 := [.inr 0, .inl x2]) (F := []) (F' := []) (G := [g0]) (G' := [g0]) (ρ := [0, 1]) (φ := []) (ψ := [0]) [] [some 0] zyw_M_standsAt zyw_M_partOf zye_M_partOf (by decide +kernel) (zt_M_standsAt hr1) trivial ⟨rfl, trivial⟩ rfl rfl rfl rfl rfl rfl rfl) zd277_9 zxt238 rfl (by decide) (by decide) rfl ?_
  obtain ⟨r2, hr2, h⟩ := zi_bind h
  refine zv_cs hB (zv_emq (va2 := [.inl (zi_rem x1 24), .inl r1]) (F := []) (F' := []) (G := [g0]) (G' := [g0]) (ρ := []) (φ := []) (ψ := []) [] [none] zyw_M_toRight zyw_M_partOf zye_M_partOf (by decide +kernel) (zt_M_toRight hr2) trivial trivial rfl rfl rfl rfl rfl rfl rfl) zd277_12 zxt242 rfl (by decide) (by decide) rfl ?_
  refine zv_con hB zd277_15 rfl ?_
  refine zv_addw hB zd277_17 ?_
  refine zv_mulw hB zd277_18 ?_
  refine zv_con hB zd277_19 rfl ?_
  refine zv_ald hB zd277_21 rfl rfl rfl ?_
  refine zv_getr hB zd277_22 rfl ?_
  refine zv_con hB zd277_25 rfl ?_
  refine zv_ild hB zd277_27 rfl rfl ?_
  refine zv_addw hB zd277_28 ?_
  obtain ⟨c3, h⟩ := zi_if h
  refine zv_iald hB zd277_29 rfl rfl (zi_ix_ok c3).1 (zi_ix_ok c3).2 (fun _ _ => ?_)
  refine zv_ild hB zd277_30 rfl rfl ?_
  refine zv_con hB zd277_31 rfl ?_
  refine zv_divw hB zd277_33 (by decide) ?_
  refine zv_subw hB zd277_34 ?_
  refine zv_con hB zd277_35 rfl ?_
  refine zv_addw hB zd277_37 ?_
  refine zv_mulw hB zd277_38 ?_
  refine zv_addw hB zd277_39 ?_
  refine zv_ald hB zd277_40 rfl rfl rfl ?_
  refine zv_getr hB zd277_41 rfl ?_
  refine zv_con hB zd277_44 rfl ?_
  refine zv_ild hB zd277_46 rfl rfl ?_
  refine zv_addw hB zd277_47 ?_
  obtain ⟨c4, h⟩ := zi_if h
  refine zv_iald hB zd277_48 rfl rfl (zi_ix_ok c4).1 (zi_ix_ok c4).2 (fun _ _ => ?_)
  refine zv_addw hB zd277_49 ?_
  have hw := Option.some.inj h
  subst hw
  exact hret _ _ _ _ _ zd277_50 (by trivial) ⟨rfl, rfl, rfl⟩
/-! M_puts_24 ([III)V -/
-- names: 0 (0, 24)('arg', 0)
-- fields: ; arrays: g0 = 0; out: [('g', 0)]
abbrev zy_M_puts_24 : zNL := (1, [], [], [], [(0, 0, 24, 0)])
theorem zyw_M_puts_24 : zv_wf zy_M_puts_24 = true := by decide +kernel
theorem zye_M_puts_24 : zv_ek2 zy_M_puts_24 = true := by decide +kernel
def zf_M_puts_24_l0_b (x2 : Int) (rec : Int → (Int → Int) → Option (Int × (Int → Int))) (x3 : Int) (g0 : (Int → Int)) : Option (Int × (Int → Int)) := if 0 < x3 then (cond (zi_ix (zi_w (x3 - 1)) 24) (if x2 < (g0 (zi_w (x3 - 1))) then (cond (zi_ix x3 24) (rec (zi_w (x3 - 1)) (zv_up g0 x3 (g0 (zi_w (x3 - 1))))) none) else (some (x3, g0))) none) else (some (x3, g0))
def zf_M_puts_24_l0 (x2 : Int) : Nat → Int → (Int → Int) → Option (Int × (Int → Int))
  | 0, _, _ => none
  | n + 1, x3, g0 => zf_M_puts_24_l0_b x2 (zf_M_puts_24_l0 x2 n) x3 g0
def zf_M_puts_24 (x1 : Int) (x2 : Int) (g0 : (Int → Int)) : Option ((Int → Int)) := (zf_M_puts_24_l0 x2 zi_fu x1 g0).bind fun q5 => (cond (zi_ix q5.1 24) (some (zv_up q5.2 q5.1 x2)) none)
theorem zd278_0 : decode zxm278.2.1 0 = .ok (.iload_n 1, 1) := by decide +kernel
theorem zd278_1 : decode zxm278.2.1 1 = .ok (.istore_n 3, 1) := by decide +kernel
theorem zd278_2 : decode zxm278.2.1 2 = .ok (.iload_n 3, 1) := by decide +kernel
theorem zd278_3 : decode zxm278.2.1 3 = .ok (.ifCond .le 27, 3) := by decide +kernel
theorem zd278_6 : decode zxm278.2.1 6 = .ok (.aload_n 0, 1) := by decide +kernel
theorem zd278_7 : decode zxm278.2.1 7 = .ok (.iload_n 3, 1) := by decide +kernel
theorem zd278_8 : decode zxm278.2.1 8 = .ok (.iconst 1, 1) := by decide +kernel
theorem zd278_9 : decode zxm278.2.1 9 = .ok (.isub, 1) := by decide +kernel
theorem zd278_10 : decode zxm278.2.1 10 = .ok (.iaload, 1) := by decide +kernel
theorem zd278_11 : decode zxm278.2.1 11 = .ok (.iload_n 2, 1) := by decide +kernel
theorem zd278_12 : decode zxm278.2.1 12 = .ok (.if_icmp .le 18, 3) := by decide +kernel
theorem zd278_15 : decode zxm278.2.1 15 = .ok (.aload_n 0, 1) := by decide +kernel
theorem zd278_16 : decode zxm278.2.1 16 = .ok (.iload_n 3, 1) := by decide +kernel
theorem zd278_17 : decode zxm278.2.1 17 = .ok (.aload_n 0, 1) := by decide +kernel
theorem zd278_18 : decode zxm278.2.1 18 = .ok (.iload_n 3, 1) := by decide +kernel
theorem zd278_19 : decode zxm278.2.1 19 = .ok (.iconst 1, 1) := by decide +kernel
theorem zd278_20 : decode zxm278.2.1 20 = .ok (.isub, 1) := by decide +kernel
theorem zd278_21 : decode zxm278.2.1 21 = .ok (.iaload, 1) := by decide +kernel
theorem zd278_22 : decode zxm278.2.1 22 = .ok (.iastore, 1) := by decide +kernel
theorem zd278_23 : decode zxm278.2.1 23 = .ok (.iload_n 3, 1) := by decide +kernel
theorem zd278_24 : decode zxm278.2.1 24 = .ok (.iconst 1, 1) := by decide +kernel
theorem zd278_25 : decode zxm278.2.1 25 = .ok (.isub, 1) := by decide +kernel
theorem zd278_26 : decode zxm278.2.1 26 = .ok (.istore_n 3, 1) := by decide +kernel
theorem zd278_27 : decode zxm278.2.1 27 = .ok (.goto (-25), 3) := by decide +kernel
theorem zd278_30 : decode zxm278.2.1 30 = .ok (.aload_n 0, 1) := by decide +kernel
theorem zd278_31 : decode zxm278.2.1 31 = .ok (.iload_n 3, 1) := by decide +kernel
theorem zd278_32 : decode zxm278.2.1 32 = .ok (.iload_n 2, 1) := by decide +kernel
theorem zd278_33 : decode zxm278.2.1 33 = .ok (.iastore, 1) := by decide +kernel
theorem zd278_34 : decode zxm278.2.1 34 = .ok (.return_, 1) := by decide +kernel
theorem zt_M_puts_24 {x1 : Int} {x2 : Int} {g0 : (Int → Int)} {o : (Int → Int)} (h : zf_M_puts_24 x1 x2 g0 = some o) : zv_Fn z_TB z_cl z_KX zy_M_puts_24 zxm278 (0, 0) [.inr 0, .inl x1, .inl x2] [] [g0] none [] [o] := zv_meth (K := (z_KF13, z_KC13, z_KL13, z_KT13, [], [], [], none)) (FT := z_FT) (MT := z_MT) (n := 3) zxp278 (z_ks13 _ (fun _ h => List.mem_cons_of_mem _ h) _ _ _ _ (fun j r h _ => by cases h)) (fun _ _ => zs_KX_p) zyw_M_puts_24 (fun va F G h => by obtain ⟨rfl, _⟩ := h; rfl) (fun va F G h => by obtain ⟨rfl, _⟩ := h; rfl) rfl fun good va F G hB hret hvret hP => by
  obtain ⟨rfl, rfl, rfl⟩ := hP
  have l0 : ∀ (n : Nat) (x2 : Int) (x3 : Int) (g0 : (Int → Int)) (q : Int × (Int → Int)), zf_M_puts_24_l0 x2 n x3 g0 = some q → (good 30 [.inr 0, .inr 1000, .inl x2, .inl q.1] [] [] [q.2]) → good 2 [.inr 0, .inr 1000, .inl x2, .inl x3] [] [] [g0] := by
    intro n
    induction n with
    | zero => intro x2 x3 g0 q h; exact absurd (show none = some q from h) (fun h => by cases h)
    | succ n ih =>
      intro x2 x3 g0 q h hK
      replace h : zf_M_puts_24_l0_b x2 (zf_M_puts_24_l0 x2 n) x3 g0 = some q := h
      unfold zf_M_puts_24_l0_b at h
      refine zv_ild hB zd278_2 rfl rfl ?_
      refine zv_zle hB zd278_3 rfl (fun hc1 => ?_) (fun hc1 => ?_)
      · rw [if_neg (Int.not_lt.mpr hc1)] at h
        have hq := Option.some.inj h
        subst hq
        exact hK
      · rw [if_pos hc1] at h
        refine zv_ald hB zd278_6 rfl rfl rfl ?_
        refine zv_ild hB zd278_7 rfl rfl ?_
        refine zv_con hB zd278_8 rfl ?_
        refine zv_subw hB zd278_9 ?_
        obtain ⟨c2, h⟩ := zi_if h
        refine zv_iald hB zd278_10 rfl rfl (zi_ix_ok c2).1 (zi_ix_ok c2).2 (fun _ _ => ?_)
        refine zv_ild hB zd278_11 rfl rfl ?_
        refine zv_cle hB zd278_12 rfl (fun hc3 => ?_) (fun hc3 => ?_)
        · rw [if_neg (Int.not_lt.mpr hc3)] at h
          have hq := Option.some.inj h
          subst hq
          exact hK
        · rw [if_pos hc3] at h
          refine zv_ald hB zd278_15 rfl rfl rfl ?_
          refine zv_ild hB zd278_16 rfl rfl ?_
          refine zv_ald hB zd278_17 rfl rfl rfl ?_
          refine zv_ild hB zd278_18 rfl rfl ?_
          refine zv_con hB zd278_19 rfl ?_
          refine zv_subw hB zd278_20 ?_
          refine zv_iald hB zd278_21 rfl rfl (zi_ix_ok c2).1 (zi_ix_ok c2).2 (fun _ _ => ?_)
          obtain ⟨c4, h⟩ := zi_if h
          refine zv_iast hB zd278_22 rfl rfl (zi_ix_ok c4).1 (zi_ix_ok c4).2 ?_
          refine zv_ild hB zd278_23 rfl rfl ?_
          refine zv_con hB zd278_24 rfl ?_
          refine zv_subw hB zd278_25 ?_
          refine zv_ist hB zd278_26 rfl rfl rfl ?_
          refine zv_goto hB zd278_27 rfl ?_
          exact ih _ _ _ q h hK
  unfold zf_M_puts_24 at h
  refine zv_ild hB zd278_0 rfl rfl ?_
  refine zv_ist hB zd278_1 rfl rfl rfl ?_
  obtain ⟨q5, hq5, h⟩ := zi_bind h
  refine zv_wk hB (L' := [.inr 0, .inr 1000, .inl x2, .inl x1]) (F' := []) ⟨fun _ => rfl, fun (h : zv_is (.inr 1000)) => (Nat.lt_irrefl 1000 h).elim, fun _ => rfl, fun _ => rfl, trivial⟩ trivial ?_
  refine l0 _ _ _ _ q5 hq5 ?_
  show good 30 [.inr 0, .inr 1000, .inl x2, .inl q5.1] [] [] [q5.2]
  refine zv_ald hB zd278_30 rfl rfl rfl ?_
  refine zv_ild hB zd278_31 rfl rfl ?_
  refine zv_ild hB zd278_32 rfl rfl ?_
  obtain ⟨c6, h⟩ := zi_if h
  refine zv_iast hB zd278_33 rfl rfl (zi_ix_ok c6).1 (zi_ix_ok c6).2 ?_
  have hw := Option.some.inj h
  subst hw
  exact hvret _ _ _ _ zd278_34 trivial ⟨rfl, rfl, rfl⟩
end
section
/-! Methods as functions, and that they do what these do. -/
/-! M_laysPatch (I)V -/
-- names: 0 StarTalesModel('arg', 0), 1 (0, 422)(0, 12, 0), 2 (0, 14)(0, 12, 21), 3 (0, 13)(0, 12, 26), 4 (0, 14)(0, 12, 23), 5 (0, 14)(0, 12, 24), 6 (0, 220)(0, 12, 20), 7 (0, 220)(0, 12, 25), 8 (0, 24)(0, 12, 44), 9 (0, 288)(0, 12, 43), 10 (0, 6912)(0, 12, 42)
-- fields: f0 = 0.clauses_; arrays: g0 = 1, g1 = 2, g2 = 3, g3 = 4, g4 = 5, g5 = 6, g6 = 7, g7 = 8, g8 = 9, g9 = 10; out: [('g', 2), ('g', 6), ('g', 7), ('g', 8), ('g', 9)]
abbrev zy_M_laysPatch : zNL := (11, [(0, 12)], [(0, 12, 13, 0)], [(0, 12, 0, 1), (0, 12, 21, 2), (0, 12, 26, 3), (0, 12, 23, 4), (0, 12, 24, 5), (0, 12, 20, 6), (0, 12, 25, 7), (0, 12, 44, 8), (0, 12, 43, 9), (0, 12, 42, 10)], [(1, 0, 422, 0), (2, 0, 14, 1), (3, 0, 13, 2), (4, 0, 14, 3), (5, 0, 14, 4), (6, 0, 220, 5), (7, 0, 220, 6), (8, 0, 24, 7), (9, 0, 288, 8), (10, 0, 6912, 9)])
theorem zyw_M_laysPatch : zv_wf zy_M_laysPatch = true := by decide +kernel
theorem zye_M_laysPatch : zv_ek2 zy_M_laysPatch = true := by decide +kernel
def zf_M_laysPatch_l0_b (x1 : Int) (x2 : Int) (g0 : (Int → Int)) (rec : Int → Int → (Int → Int) → Option (Int × (Int → Int))) (x3 : Int) (x4 : Int) (g7 : (Int → Int)) : Option (Int × (Int → Int)) := if x4 < 24 then ((zf_M_has x2 x4).bind fun r3 => (if r3 = 0 then (rec x3 (zi_w (x4 + 1)) g7) else ((zf_M_partOf x1 x4 g0).bind fun r5 => ((zf_M_puts_24 x3 r5 g7).bind fun r6 => (rec (zi_w (x3 + 1)) (zi_w (x4 + 1)) r6))))) else (some (x3, g7))
def zf_M_laysPatch_l0 (x1 : Int) (x2 : Int) (g0 : (Int → Int)) : Nat → Int → Int → (Int → Int) → Option (Int × (Int → Int))
  | 0, _, _, _ => none
  | n + 1, x3, x4, g7 => zf_M_laysPatch_l0_b x1 x2 g0 (zf_M_laysPatch_l0 x1 x2 g0 n) x3 x4 g7
def zf_M_laysPatch_l1_b (x1 : Int) (x3 : Int) (g7 : (Int → Int)) (rec : Int → (Int → Int) → Option ((Int → Int))) (x4 : Int) (g9 : (Int → Int)) : Option ((Int → Int)) := if x4 < x3 then (cond (zi_ix x4 24) (cond (zi_ix (zi_w ((zi_w (24 * x1)) + x4)) 6912) (rec (zi_w (x4 + 1)) (zv_up g9 (zi_w ((zi_w (24 * x1)) + x4)) (g7 x4))) none) none) else (some g9)
def zf_M_laysPatch_l1 (x1 : Int) (x3 : Int) (g7 : (Int → Int)) : Nat → Int → (Int → Int) → Option ((Int → Int))
  | 0, _, _ => none
  | n + 1, x4, g9 => zf_M_laysPatch_l1_b x1 x3 g7 (zf_M_laysPatch_l1 x1 x3 g7 n) x4 g9
def zf_M_laysPatch (x1 : Int) (f0 : Int) (g0 : (Int → Int)) (g1 : (Int → Int)) (g2 : (Int → Int)) (g3 : (Int → Int)) (g4 : (Int → Int)) (g5 : (Int → Int)) (g6 : (Int → Int)) (g7 : (Int → Int)) (g8 : (Int → Int)) (g9 : (Int → Int)) : Option ((Int → Int) × (Int → Int) × (Int → Int) × (Int → Int) × (Int → Int)) := (zf_M_seenFrom x1 f0 g0 g1 g2 g3 g4 g5 g6).bind fun r1 => ((zf_M_laysPatch_l0 x1 r1.1 g0 zi_fu 0 0 g7).bind fun q7 => (cond (zi_ix x1 288) ((zf_M_laysPatch_l1 x1 q7.1 q7.2 zi_fu 0 g9).bind fun q12 => (some (r1.2.1, r1.2.2, q7.2, (zv_up g8 x1 q7.1), q12))) none))
theorem zd276_0 : decode zxm276.2.1 0 = .ok (.aload_n 0, 1) := by decide +kernel
theorem zd276_1 : decode zxm276.2.1 1 = .ok (.iload_n 1, 1) := by decide +kernel
theorem zd276_2 : decode zxm276.2.1 2 = .ok (.invokevirtual 300, 3) := by decide +kernel
theorem zd276_5 : decode zxm276.2.1 5 = .ok (.istore_n 2, 1) := by decide +kernel
theorem zd276_6 : decode zxm276.2.1 6 = .ok (.iconst 0, 1) := by decide +kernel
theorem zd276_7 : decode zxm276.2.1 7 = .ok (.istore_n 3, 1) := by decide +kernel
theorem zd276_8 : decode zxm276.2.1 8 = .ok (.iconst 0, 1) := by decide +kernel
theorem zd276_9 : decode zxm276.2.1 9 = .ok (.istore 4, 2) := by decide +kernel
theorem zd276_11 : decode zxm276.2.1 11 = .ok (.iload 4, 2) := by decide +kernel
theorem zd276_13 : decode zxm276.2.1 13 = .ok (.bipush 24, 2) := by decide +kernel
theorem zd276_15 : decode zxm276.2.1 15 = .ok (.if_icmp .ge 40, 3) := by decide +kernel
theorem zd276_18 : decode zxm276.2.1 18 = .ok (.iload_n 2, 1) := by decide +kernel
theorem zd276_19 : decode zxm276.2.1 19 = .ok (.iload 4, 2) := by decide +kernel
theorem zd276_21 : decode zxm276.2.1 21 = .ok (.invokestatic 138, 3) := by decide +kernel
theorem zd276_24 : decode zxm276.2.1 24 = .ok (.ifCond .ne 6, 3) := by decide +kernel
theorem zd276_27 : decode zxm276.2.1 27 = .ok (.goto 22, 3) := by decide +kernel
theorem zd276_30 : decode zxm276.2.1 30 = .ok (.aload_n 0, 1) := by decide +kernel
theorem zd276_31 : decode zxm276.2.1 31 = .ok (.getfield 92, 3) := by decide +kernel
theorem zd276_34 : decode zxm276.2.1 34 = .ok (.iload_n 3, 1) := by decide +kernel
theorem zd276_35 : decode zxm276.2.1 35 = .ok (.aload_n 0, 1) := by decide +kernel
theorem zd276_36 : decode zxm276.2.1 36 = .ok (.iload_n 1, 1) := by decide +kernel
theorem zd276_37 : decode zxm276.2.1 37 = .ok (.iload 4, 2) := by decide +kernel
theorem zd276_39 : decode zxm276.2.1 39 = .ok (.invokevirtual 372, 3) := by decide +kernel
theorem zd276_42 : decode zxm276.2.1 42 = .ok (.invokestatic 375, 3) := by decide +kernel
theorem zd276_45 : decode zxm276.2.1 45 = .ok (.iload_n 3, 1) := by decide +kernel
theorem zd276_46 : decode zxm276.2.1 46 = .ok (.iconst 1, 1) := by decide +kernel
theorem zd276_47 : decode zxm276.2.1 47 = .ok (.iadd, 1) := by decide +kernel
theorem zd276_48 : decode zxm276.2.1 48 = .ok (.istore_n 3, 1) := by decide +kernel
theorem zd276_49 : decode zxm276.2.1 49 = .ok (.iinc 4 1, 3) := by decide +kernel
theorem zd276_52 : decode zxm276.2.1 52 = .ok (.goto (-41), 3) := by decide +kernel
theorem zd276_55 : decode zxm276.2.1 55 = .ok (.aload_n 0, 1) := by decide +kernel
theorem zd276_56 : decode zxm276.2.1 56 = .ok (.getfield 89, 3) := by decide +kernel
theorem zd276_59 : decode zxm276.2.1 59 = .ok (.iload_n 1, 1) := by decide +kernel
theorem zd276_60 : decode zxm276.2.1 60 = .ok (.iload_n 3, 1) := by decide +kernel
theorem zd276_61 : decode zxm276.2.1 61 = .ok (.iastore, 1) := by decide +kernel
theorem zd276_62 : decode zxm276.2.1 62 = .ok (.iconst 0, 1) := by decide +kernel
theorem zd276_63 : decode zxm276.2.1 63 = .ok (.istore 4, 2) := by decide +kernel
theorem zd276_65 : decode zxm276.2.1 65 = .ok (.iload 4, 2) := by decide +kernel
theorem zd276_67 : decode zxm276.2.1 67 = .ok (.iload_n 3, 1) := by decide +kernel
theorem zd276_68 : decode zxm276.2.1 68 = .ok (.if_icmp .ge 28, 3) := by decide +kernel
theorem zd276_71 : decode zxm276.2.1 71 = .ok (.aload_n 0, 1) := by decide +kernel
theorem zd276_72 : decode zxm276.2.1 72 = .ok (.getfield 86, 3) := by decide +kernel
theorem zd276_75 : decode zxm276.2.1 75 = .ok (.bipush 24, 2) := by decide +kernel
theorem zd276_77 : decode zxm276.2.1 77 = .ok (.iload_n 1, 1) := by decide +kernel
theorem zd276_78 : decode zxm276.2.1 78 = .ok (.imul, 1) := by decide +kernel
theorem zd276_79 : decode zxm276.2.1 79 = .ok (.iload 4, 2) := by decide +kernel
theorem zd276_81 : decode zxm276.2.1 81 = .ok (.iadd, 1) := by decide +kernel
theorem zd276_82 : decode zxm276.2.1 82 = .ok (.aload_n 0, 1) := by decide +kernel
theorem zd276_83 : decode zxm276.2.1 83 = .ok (.getfield 92, 3) := by decide +kernel
theorem zd276_86 : decode zxm276.2.1 86 = .ok (.iload 4, 2) := by decide +kernel
theorem zd276_88 : decode zxm276.2.1 88 = .ok (.iaload, 1) := by decide +kernel
theorem zd276_89 : decode zxm276.2.1 89 = .ok (.iastore, 1) := by decide +kernel
theorem zd276_90 : decode zxm276.2.1 90 = .ok (.iinc 4 1, 3) := by decide +kernel
theorem zd276_93 : decode zxm276.2.1 93 = .ok (.goto (-28), 3) := by decide +kernel
theorem zd276_96 : decode zxm276.2.1 96 = .ok (.return_, 1) := by decide +kernel
theorem zt_M_laysPatch {x1 : Int} {f0 : Int} {g0 : (Int → Int)} {g1 : (Int → Int)} {g2 : (Int → Int)} {g3 : (Int → Int)} {g4 : (Int → Int)} {g5 : (Int → Int)} {g6 : (Int → Int)} {g7 : (Int → Int)} {g8 : (Int → Int)} {g9 : (Int → Int)} {o : (Int → Int) × (Int → Int) × (Int → Int) × (Int → Int) × (Int → Int)} (h : zf_M_laysPatch x1 f0 g0 g1 g2 g3 g4 g5 g6 g7 g8 g9 = some o) : zv_Fn z_TB z_cl z_KX zy_M_laysPatch zxm276 (5, 300) [.inr 0, .inl x1] [.inl f0] [g0, g1, g2, g3, g4, g5, g6, g7, g8, g9] none [.inl f0] [g0, g1, o.1, g3, g4, g5, o.2.1, o.2.2.1, o.2.2.2.1, o.2.2.2.2] := zv_meth (K := (z_KF13, z_KC13, z_KL13, z_KT13, [], [], [], none)) (FT := z_FT) (MT := z_MT) (n := 2) zxp276 (z_ks13 _ (fun _ h => List.mem_cons_of_mem _ h) _ _ _ _ (fun j r h _ => by cases h)) (fun _ _ => zs_KX_p) zyw_M_laysPatch (fun va F G h => by obtain ⟨rfl, _⟩ := h; rfl) (fun va F G h => by obtain ⟨rfl, _⟩ := h; rfl) rfl fun good va F G hB hret hvret hP => by
  obtain ⟨rfl, rfl, rfl⟩ := hP
  have l0 : ∀ (n : Nat) (x1 : Int) (x2 : Int) (x3 : Int) (x4 : Int) (g2 : (Int → Int)) (g6 : (Int → Int)) (g7 : (Int → Int)) (g8 : (Int → Int)) (g9 : (Int → Int)) (q : Int × (Int → Int)), zf_M_laysPatch_l0 x1 x2 g0 n x3 x4 g7 = some q → (good 55 [.inr 0, .inl x1, .inr 1000, .inl q.1, .inr 1000] [] [.inl f0] [g0, g1, g2, g3, g4, g5, g6, q.2, g8, g9]) → good 11 [.inr 0, .inl x1, .inl x2, .inl x3, .inl x4] [] [.inl f0] [g0, g1, g2, g3, g4, g5, g6, g7, g8, g9] := by
    intro n
    induction n with
    | zero => intro x1 x2 x3 x4 g2 g6 g7 g8 g9 q h; exact absurd (show none = some q from h) (fun h => by cases h)
    | succ n ih =>
      intro x1 x2 x3 x4 g2 g6 g7 g8 g9 q h hK
      replace h : zf_M_laysPatch_l0_b x1 x2 g0 (zf_M_laysPatch_l0 x1 x2 g0 n) x3 x4 g7 = some q := h
      unfold zf_M_laysPatch_l0_b at h
      refine zv_ild hB zd276_11 rfl rfl ?_
      refine zv_con hB zd276_13 rfl ?_
      refine zv_cge hB zd276_15 rfl (fun hc2 => ?_) (fun hc2 => ?_)
      · rw [if_neg (Int.not_lt.mpr hc2)] at h
        have hq := Option.some.inj h
        subst hq
        refine zv_wk hB (L' := [.inr 0, .inl x1, .inr 1000, .inl x3, .inr 1000]) (F' := [.inl f0]) ⟨fun _ => rfl, fun _ => rfl, fun (h : zv_is (.inr 1000)) => (Nat.lt_irrefl 1000 h).elim, fun _ => rfl, fun (h : zv_is (.inr 1000)) => (Nat.lt_irrefl 1000 h).elim, trivial⟩ ⟨fun _ => rfl, trivial⟩ ?_
        exact hK
      · rw [if_pos hc2] at h
        refine zv_ild hB zd276_18 rfl rfl ?_
        refine zv_ild hB zd276_19 rfl rfl ?_
        obtain ⟨r3, hr3, h⟩ := zi_bind h
        refine zv_cs hB (zv_emq (va2 := [.inl x2, .inl x4]) (F := [.inl f0]) (F' := [.inl f0]) (G := [g0, g1, g2, g3, g4, g5, g6, g7, g8, g9]) (G' := [g0, g1, g2, g3, g4, g5, g6, g7, g8, g9]) (ρ := []) (φ := []) (ψ := []) [none] [none, none, none, none, none, none, none, none, none, none] zyw_M_has zyw_M_laysPatch zye_M_laysPatch (by decide +kernel) (zt_M_has hr3) trivial trivial rfl rfl rfl rfl rfl rfl rfl) zd276_21 zxt204 rfl (by decide) (by decide) rfl ?_
        refine zv_zne hB zd276_24 rfl (fun hc4 => ?_) (fun hc4 => ?_)
        · rw [if_neg hc4] at h
          refine zv_ald hB zd276_30 rfl rfl rfl ?_
          refine zv_getr hB zd276_31 rfl ?_
          refine zv_ild hB zd276_34 rfl rfl ?_
          refine zv_ald hB zd276_35 rfl rfl rfl ?_
          refine zv_ild hB zd276_36 rfl rfl ?_
          refine zv_ild hB zd276_37 rfl rfl ?_
          obtain ⟨r5, hr5, h⟩ := zi_bind h
          refine zv_cv hB (zv_emq (va2 := [.inr 0, .inl x1, .inl x4]) (F := [.inl f0]) (F' := [.inl f0]) (G := [g0, g1, g2, g3, g4, g5, g6, g7, g8, g9]) (G' := [g0, g1, g2, g3, g4, g5, g6, g7, g8, g9]) (ρ := [0, 1]) (φ := []) (ψ := [0]) [none] [some 0, none, none, none, none, none, none, none, none, none] zyw_M_partOf zyw_M_laysPatch zye_M_laysPatch (by decide +kernel) (zt_M_partOf hr5) trivial ⟨rfl, trivial⟩ rfl rfl rfl rfl rfl rfl rfl) zd276_39 zxt277 rfl (by decide) (by decide) rfl ?_
          obtain ⟨r6, hr6, h⟩ := zi_bind h
          refine zv_cs hB (zv_emq (va2 := [.inr 8, .inl x3, .inl r5]) (F := [.inl f0]) (F' := [.inl f0]) (G := [g0, g1, g2, g3, g4, g5, g6, g7, g8, g9]) (G' := [g0, g1, g2, g3, g4, g5, g6, r6, g8, g9]) (ρ := [8]) (φ := []) (ψ := [7]) [none] [none, none, none, none, none, none, none, some 0, none, none] zyw_M_puts_24 zyw_M_laysPatch zye_M_laysPatch (by decide +kernel) (zt_M_puts_24 hr6) trivial ⟨rfl, trivial⟩ rfl rfl rfl rfl rfl rfl rfl) zd276_42 zxt278 rfl (by decide) (by decide) rfl ?_
          refine zv_ild hB zd276_45 rfl rfl ?_
          refine zv_con hB zd276_46 rfl ?_
          refine zv_addw hB zd276_47 ?_
          refine zv_ist hB zd276_48 rfl rfl rfl ?_
          refine zv_iincw hB zd276_49 rfl rfl ?_
          refine zv_goto hB zd276_52 rfl ?_
          exact ih _ _ _ _ _ _ _ _ _ q h hK
        · rw [if_pos hc4] at h
          refine zv_goto hB zd276_27 rfl ?_
          refine zv_iincw hB zd276_49 rfl rfl ?_
          refine zv_goto hB zd276_52 rfl ?_
          exact ih _ _ _ _ _ _ _ _ _ q h hK
  have l1 : ∀ (n : Nat) (x1 : Int) (x3 : Int) (x4 : Int) (g2 : (Int → Int)) (g6 : (Int → Int)) (g7 : (Int → Int)) (g8 : (Int → Int)) (g9 : (Int → Int)) (q : (Int → Int)), zf_M_laysPatch_l1 x1 x3 g7 n x4 g9 = some q → (good 96 [.inr 1000, .inr 1000, .inr 1000, .inr 1000, .inr 1000] [] [.inl f0] [g0, g1, g2, g3, g4, g5, g6, g7, g8, q]) → good 65 [.inr 0, .inl x1, .inr 1000, .inl x3, .inl x4] [] [.inl f0] [g0, g1, g2, g3, g4, g5, g6, g7, g8, g9] := by
    intro n
    induction n with
    | zero => intro x1 x3 x4 g2 g6 g7 g8 g9 q h; exact absurd (show none = some q from h) (fun h => by cases h)
    | succ n ih =>
      intro x1 x3 x4 g2 g6 g7 g8 g9 q h hK
      replace h : zf_M_laysPatch_l1_b x1 x3 g7 (zf_M_laysPatch_l1 x1 x3 g7 n) x4 g9 = some q := h
      unfold zf_M_laysPatch_l1_b at h
      refine zv_ild hB zd276_65 rfl rfl ?_
      refine zv_ild hB zd276_67 rfl rfl ?_
      refine zv_cge hB zd276_68 rfl (fun hc9 => ?_) (fun hc9 => ?_)
      · rw [if_neg (Int.not_lt.mpr hc9)] at h
        have hq := Option.some.inj h
        subst hq
        refine zv_wk hB (L' := [.inr 1000, .inr 1000, .inr 1000, .inr 1000, .inr 1000]) (F' := [.inl f0]) ⟨fun (h : zv_is (.inr 1000)) => (Nat.lt_irrefl 1000 h).elim, fun (h : zv_is (.inr 1000)) => (Nat.lt_irrefl 1000 h).elim, fun (h : zv_is (.inr 1000)) => (Nat.lt_irrefl 1000 h).elim, fun (h : zv_is (.inr 1000)) => (Nat.lt_irrefl 1000 h).elim, fun (h : zv_is (.inr 1000)) => (Nat.lt_irrefl 1000 h).elim, trivial⟩ ⟨fun _ => rfl, trivial⟩ ?_
        exact hK
      · rw [if_pos hc9] at h
        refine zv_ald hB zd276_71 rfl rfl rfl ?_
        refine zv_getr hB zd276_72 rfl ?_
        refine zv_con hB zd276_75 rfl ?_
        refine zv_ild hB zd276_77 rfl rfl ?_
        refine zv_mulw hB zd276_78 ?_
        refine zv_ild hB zd276_79 rfl rfl ?_
        refine zv_addw hB zd276_81 ?_
        refine zv_ald hB zd276_82 rfl rfl rfl ?_
        refine zv_getr hB zd276_83 rfl ?_
        refine zv_ild hB zd276_86 rfl rfl ?_
        obtain ⟨c10, h⟩ := zi_if h
        refine zv_iald hB zd276_88 rfl rfl (zi_ix_ok c10).1 (zi_ix_ok c10).2 (fun _ _ => ?_)
        obtain ⟨c11, h⟩ := zi_if h
        refine zv_iast hB zd276_89 rfl rfl (zi_ix_ok c11).1 (zi_ix_ok c11).2 ?_
        refine zv_iincw hB zd276_90 rfl rfl ?_
        refine zv_goto hB zd276_93 rfl ?_
        exact ih _ _ _ _ _ _ _ _ q h hK
  unfold zf_M_laysPatch at h
  refine zv_ald hB zd276_0 rfl rfl rfl ?_
  refine zv_ild hB zd276_1 rfl rfl ?_
  obtain ⟨r1, hr1, h⟩ := zi_bind h
  refine zv_cv hB (zv_emq (va2 := [.inr 0, .inl x1]) (F := [.inl f0]) (F' := [.inl f0]) (G := [g0, g1, g2, g3, g4, g5, g6, g7, g8, g9]) (G' := [g0, g1, r1.2.1, g3, g4, g5, r1.2.2, g7, g8, g9]) (ρ := [0, 1, 2, 3, 4, 5, 6, 7]) (φ := [0]) (ψ := [0, 1, 2, 3, 4, 5, 6]) [some 0] [some 0, some 1, some 2, some 3, some 4, some 5, some 6, none, none, none] zyw_M_seenFrom zyw_M_laysPatch zye_M_laysPatch (by decide +kernel) (zt_M_seenFrom hr1) ⟨⟨_, rfl, fun _ => rfl⟩, trivial⟩ ⟨rfl, rfl, rfl, rfl, rfl, rfl, rfl, trivial⟩ rfl rfl rfl rfl rfl rfl rfl) zd276_2 zxt240 rfl (by decide) (by decide) rfl ?_
  refine zv_ist hB zd276_5 rfl rfl rfl ?_
  refine zv_con hB zd276_6 rfl ?_
  refine zv_ist hB zd276_7 rfl rfl rfl ?_
  refine zv_con hB zd276_8 rfl ?_
  refine zv_ist hB zd276_9 rfl rfl rfl ?_
  obtain ⟨q7, hq7, h⟩ := zi_bind h
  refine l0 _ _ _ _ _ _ _ _ _ _ q7 hq7 ?_
  show good 55 [.inr 0, .inl x1, .inr 1000, .inl q7.1, .inr 1000] [] [.inl f0] [g0, g1, r1.2.1, g3, g4, g5, r1.2.2, q7.2, g8, g9]
  refine zv_ald hB zd276_55 rfl rfl rfl ?_
  refine zv_getr hB zd276_56 rfl ?_
  refine zv_ild hB zd276_59 rfl rfl ?_
  refine zv_ild hB zd276_60 rfl rfl ?_
  obtain ⟨c8, h⟩ := zi_if h
  refine zv_iast hB zd276_61 rfl rfl (zi_ix_ok c8).1 (zi_ix_ok c8).2 ?_
  refine zv_con hB zd276_62 rfl ?_
  refine zv_ist hB zd276_63 rfl rfl rfl ?_
  obtain ⟨q12, hq12, h⟩ := zi_bind h
  refine l1 _ _ _ _ _ _ _ _ _ q12 hq12 ?_
  show good 96 [.inr 1000, .inr 1000, .inr 1000, .inr 1000, .inr 1000] [] [.inl f0] [g0, g1, r1.2.1, g3, g4, g5, r1.2.2, q7.2, (zv_up g8 x1 q7.1), q12]
  have hw := Option.some.inj h
  subst hw
  exact hvret _ _ _ _ zd276_96 trivial ⟨rfl, rfl, rfl⟩
/-! M_laysPatches ()V -/
-- names: 0 StarTalesModel('arg', 0), 1 (0, 422)(0, 12, 0), 2 (0, 14)(0, 12, 21), 3 (0, 13)(0, 12, 26), 4 (0, 14)(0, 12, 23), 5 (0, 14)(0, 12, 24), 6 (0, 220)(0, 12, 20), 7 (0, 220)(0, 12, 25), 8 (0, 24)(0, 12, 44), 9 (0, 288)(0, 12, 43), 10 (0, 6912)(0, 12, 42)
-- fields: f0 = 0.clauses_; arrays: g0 = 1, g1 = 2, g2 = 3, g3 = 4, g4 = 5, g5 = 6, g6 = 7, g7 = 8, g8 = 9, g9 = 10; out: [('g', 2), ('g', 6), ('g', 7), ('g', 8), ('g', 9)]
abbrev zy_M_laysPatches : zNL := (11, [(0, 12)], [(0, 12, 13, 0)], [(0, 12, 0, 1), (0, 12, 21, 2), (0, 12, 26, 3), (0, 12, 23, 4), (0, 12, 24, 5), (0, 12, 20, 6), (0, 12, 25, 7), (0, 12, 44, 8), (0, 12, 43, 9), (0, 12, 42, 10)], [(1, 0, 422, 0), (2, 0, 14, 1), (3, 0, 13, 2), (4, 0, 14, 3), (5, 0, 14, 4), (6, 0, 220, 5), (7, 0, 220, 6), (8, 0, 24, 7), (9, 0, 288, 8), (10, 0, 6912, 9)])
theorem zyw_M_laysPatches : zv_wf zy_M_laysPatches = true := by decide +kernel
theorem zye_M_laysPatches : zv_ek2 zy_M_laysPatches = true := by decide +kernel
def zf_M_laysPatches_l0_b (f0 : Int) (g0 : (Int → Int)) (g1 : (Int → Int)) (g3 : (Int → Int)) (g4 : (Int → Int)) (g5 : (Int → Int)) (rec : Int → (Int → Int) → (Int → Int) → (Int → Int) → (Int → Int) → (Int → Int) → Option ((Int → Int) × (Int → Int) × (Int → Int) × (Int → Int) × (Int → Int))) (x1 : Int) (g2 : (Int → Int)) (g6 : (Int → Int)) (g7 : (Int → Int)) (g8 : (Int → Int)) (g9 : (Int → Int)) : Option ((Int → Int) × (Int → Int) × (Int → Int) × (Int → Int) × (Int → Int)) := if x1 < 288 then ((zf_M_laysPatch x1 f0 g0 g1 g2 g3 g4 g5 g6 g7 g8 g9).bind fun r2 => (rec (zi_w (x1 + 1)) r2.1 r2.2.1 r2.2.2.1 r2.2.2.2.1 r2.2.2.2.2)) else (some (g2, g6, g7, g8, g9))
def zf_M_laysPatches_l0 (f0 : Int) (g0 : (Int → Int)) (g1 : (Int → Int)) (g3 : (Int → Int)) (g4 : (Int → Int)) (g5 : (Int → Int)) : Nat → Int → (Int → Int) → (Int → Int) → (Int → Int) → (Int → Int) → (Int → Int) → Option ((Int → Int) × (Int → Int) × (Int → Int) × (Int → Int) × (Int → Int))
  | 0, _, _, _, _, _, _ => none
  | n + 1, x1, g2, g6, g7, g8, g9 => zf_M_laysPatches_l0_b f0 g0 g1 g3 g4 g5 (zf_M_laysPatches_l0 f0 g0 g1 g3 g4 g5 n) x1 g2 g6 g7 g8 g9
def zf_M_laysPatches (f0 : Int) (g0 : (Int → Int)) (g1 : (Int → Int)) (g2 : (Int → Int)) (g3 : (Int → Int)) (g4 : (Int → Int)) (g5 : (Int → Int)) (g6 : (Int → Int)) (g7 : (Int → Int)) (g8 : (Int → Int)) (g9 : (Int → Int)) : Option ((Int → Int) × (Int → Int) × (Int → Int) × (Int → Int) × (Int → Int)) := (zf_M_laysPatches_l0 f0 g0 g1 g3 g4 g5 zi_fu 0 g2 g6 g7 g8 g9).bind fun q3 => (some (q3.1, q3.2.1, q3.2.2.1, q3.2.2.2.1, q3.2.2.2.2))
theorem zd275_0 : decode zxm275.2.1 0 = .ok (.iconst 0, 1) := by decide +kernel
theorem zd275_1 : decode zxm275.2.1 1 = .ok (.istore_n 1, 1) := by decide +kernel
theorem zd275_2 : decode zxm275.2.1 2 = .ok (.iload_n 1, 1) := by decide +kernel
theorem zd275_3 : decode zxm275.2.1 3 = .ok (.sipush 288, 3) := by decide +kernel
theorem zd275_6 : decode zxm275.2.1 6 = .ok (.if_icmp .ge 14, 3) := by decide +kernel
theorem zd275_9 : decode zxm275.2.1 9 = .ok (.aload_n 0, 1) := by decide +kernel
theorem zd275_10 : decode zxm275.2.1 10 = .ok (.iload_n 1, 1) := by decide +kernel
theorem zd275_11 : decode zxm275.2.1 11 = .ok (.invokevirtual 379, 3) := by decide +kernel
theorem zd275_14 : decode zxm275.2.1 14 = .ok (.iinc 1 1, 3) := by decide +kernel
theorem zd275_17 : decode zxm275.2.1 17 = .ok (.goto (-15), 3) := by decide +kernel
theorem zd275_20 : decode zxm275.2.1 20 = .ok (.return_, 1) := by decide +kernel
theorem zt_M_laysPatches {f0 : Int} {g0 : (Int → Int)} {g1 : (Int → Int)} {g2 : (Int → Int)} {g3 : (Int → Int)} {g4 : (Int → Int)} {g5 : (Int → Int)} {g6 : (Int → Int)} {g7 : (Int → Int)} {g8 : (Int → Int)} {g9 : (Int → Int)} {o : (Int → Int) × (Int → Int) × (Int → Int) × (Int → Int) × (Int → Int)} (h : zf_M_laysPatches f0 g0 g1 g2 g3 g4 g5 g6 g7 g8 g9 = some o) : zv_Fn z_TB z_cl z_KX zy_M_laysPatches zxm275 (6, 360) [.inr 0] [.inl f0] [g0, g1, g2, g3, g4, g5, g6, g7, g8, g9] none [.inl f0] [g0, g1, o.1, g3, g4, g5, o.2.1, o.2.2.1, o.2.2.2.1, o.2.2.2.2] := zv_meth (K := (z_KF13, z_KC13, z_KL13, z_KT13, [], [], [], none)) (FT := z_FT) (MT := z_MT) (n := 1) zxp275 (z_ks13 _ (fun _ h => List.mem_cons_of_mem _ h) _ _ _ _ (fun j r h _ => by cases h)) (fun _ _ => zs_KX_p) zyw_M_laysPatches (fun va F G h => by obtain ⟨rfl, _⟩ := h; rfl) (fun va F G h => by obtain ⟨rfl, _⟩ := h; rfl) rfl fun good va F G hB hret hvret hP => by
  obtain ⟨rfl, rfl, rfl⟩ := hP
  have l0 : ∀ (n : Nat) (x1 : Int) (g2 : (Int → Int)) (g6 : (Int → Int)) (g7 : (Int → Int)) (g8 : (Int → Int)) (g9 : (Int → Int)) (q : (Int → Int) × (Int → Int) × (Int → Int) × (Int → Int) × (Int → Int)), zf_M_laysPatches_l0 f0 g0 g1 g3 g4 g5 n x1 g2 g6 g7 g8 g9 = some q → (good 20 [.inr 1000, .inr 1000] [] [.inl f0] [g0, g1, q.1, g3, g4, g5, q.2.1, q.2.2.1, q.2.2.2.1, q.2.2.2.2]) → good 2 [.inr 0, .inl x1] [] [.inl f0] [g0, g1, g2, g3, g4, g5, g6, g7, g8, g9] := by
    intro n
    induction n with
    | zero => intro x1 g2 g6 g7 g8 g9 q h; exact absurd (show none = some q from h) (fun h => by cases h)
    | succ n ih =>
      intro x1 g2 g6 g7 g8 g9 q h hK
      replace h : zf_M_laysPatches_l0_b f0 g0 g1 g3 g4 g5 (zf_M_laysPatches_l0 f0 g0 g1 g3 g4 g5 n) x1 g2 g6 g7 g8 g9 = some q := h
      unfold zf_M_laysPatches_l0_b at h
      refine zv_ild hB zd275_2 rfl rfl ?_
      refine zv_con hB zd275_3 rfl ?_
      refine zv_cge hB zd275_6 rfl (fun hc1 => ?_) (fun hc1 => ?_)
      · rw [if_neg (Int.not_lt.mpr hc1)] at h
        have hq := Option.some.inj h
        subst hq
        refine zv_wk hB (L' := [.inr 1000, .inr 1000]) (F' := [.inl f0]) ⟨fun (h : zv_is (.inr 1000)) => (Nat.lt_irrefl 1000 h).elim, fun (h : zv_is (.inr 1000)) => (Nat.lt_irrefl 1000 h).elim, trivial⟩ ⟨fun _ => rfl, trivial⟩ ?_
        exact hK
      · rw [if_pos hc1] at h
        refine zv_ald hB zd275_9 rfl rfl rfl ?_
        refine zv_ild hB zd275_10 rfl rfl ?_
        obtain ⟨r2, hr2, h⟩ := zi_bind h
        refine zv_cv hB (zv_emq (va2 := [.inr 0, .inl x1]) (F := [.inl f0]) (F' := [.inl f0]) (G := [g0, g1, g2, g3, g4, g5, g6, g7, g8, g9]) (G' := [g0, g1, r2.1, g3, g4, g5, r2.2.1, r2.2.2.1, r2.2.2.2.1, r2.2.2.2.2]) (ρ := [0, 1, 2, 3, 4, 5, 6, 7, 8, 9, 10]) (φ := [0]) (ψ := [0, 1, 2, 3, 4, 5, 6, 7, 8, 9]) [some 0] [some 0, some 1, some 2, some 3, some 4, some 5, some 6, some 7, some 8, some 9] zyw_M_laysPatch zyw_M_laysPatches zye_M_laysPatches (by decide +kernel) (zt_M_laysPatch hr2) ⟨⟨_, rfl, fun _ => rfl⟩, trivial⟩ ⟨rfl, rfl, rfl, rfl, rfl, rfl, rfl, rfl, rfl, rfl, trivial⟩ rfl rfl rfl rfl rfl rfl rfl) zd275_11 zxt276 rfl (by decide) (by decide) rfl ?_
        refine zv_iincw hB zd275_14 rfl rfl ?_
        refine zv_goto hB zd275_17 rfl ?_
        exact ih _ _ _ _ _ _ q h hK
  unfold zf_M_laysPatches at h
  refine zv_con hB zd275_0 rfl ?_
  refine zv_ist hB zd275_1 rfl rfl rfl ?_
  obtain ⟨q3, hq3, h⟩ := zi_bind h
  refine l0 _ _ _ _ _ _ _ q3 hq3 ?_
  show good 20 [.inr 1000, .inr 1000] [] [.inl f0] [g0, g1, q3.1, g3, g4, g5, q3.2.1, q3.2.2.1, q3.2.2.2.1, q3.2.2.2.2]
  have hw := Option.some.inj h
  subst hw
  exact hvret _ _ _ _ zd275_20 trivial ⟨rfl, rfl, rfl⟩
/-! M_areAlike (II)Z -/
-- names: 0 StarTalesModel('arg', 0), 1 (0, 288)(0, 12, 43), 2 (0, 6912)(0, 12, 42)
-- fields: ; arrays: g0 = 1, g1 = 2; out: [('ret', None)]
abbrev zy_M_areAlike : zNL := (3, [(0, 12)], [], [(0, 12, 43, 1), (0, 12, 42, 2)], [(1, 0, 288, 0), (2, 0, 6912, 1)])
theorem zyw_M_areAlike : zv_wf zy_M_areAlike = true := by decide +kernel
theorem zye_M_areAlike : zv_ek2 zy_M_areAlike = true := by decide +kernel
def zf_M_areAlike_l0_b (x1 : Int) (x2 : Int) (g0 : (Int → Int)) (g1 : (Int → Int)) (rec : Int → Option (((Unit) ⊕ (Int)))) (x3 : Int) : Option (((Unit) ⊕ (Int))) := cond (zi_ix x1 288) (if x3 < (g0 x1) then (cond (zi_ix (zi_w ((zi_w (24 * x1)) + x3)) 6912) (cond (zi_ix (zi_w ((zi_w (24 * x2)) + x3)) 6912) (if (g1 (zi_w ((zi_w (24 * x1)) + x3))) = (g1 (zi_w ((zi_w (24 * x2)) + x3))) then (rec (zi_w (x3 + 1))) else (some (.inr 0))) none) none) else (some (.inl ()))) none
def zf_M_areAlike_l0 (x1 : Int) (x2 : Int) (g0 : (Int → Int)) (g1 : (Int → Int)) : Nat → Int → Option (((Unit) ⊕ (Int)))
  | 0, _ => none
  | n + 1, x3 => zf_M_areAlike_l0_b x1 x2 g0 g1 (zf_M_areAlike_l0 x1 x2 g0 g1 n) x3
def zf_M_areAlike (x1 : Int) (x2 : Int) (g0 : (Int → Int)) (g1 : (Int → Int)) : Option (Int) := cond (zi_ix x1 288) (cond (zi_ix x2 288) (if (g0 x1) = (g0 x2) then ((zf_M_areAlike_l0 x1 x2 g0 g1 zi_fu 0).bind fun q9 => Sum.elim (fun e10 => (some 1)) (fun w11 => some w11) q9) else (some 0)) none) none
theorem zd280_0 : decode zxm280.2.1 0 = .ok (.aload_n 0, 1) := by decide +kernel
theorem zd280_1 : decode zxm280.2.1 1 = .ok (.getfield 89, 3) := by decide +kernel
theorem zd280_4 : decode zxm280.2.1 4 = .ok (.iload_n 1, 1) := by decide +kernel
theorem zd280_5 : decode zxm280.2.1 5 = .ok (.iaload, 1) := by decide +kernel
theorem zd280_6 : decode zxm280.2.1 6 = .ok (.aload_n 0, 1) := by decide +kernel
theorem zd280_7 : decode zxm280.2.1 7 = .ok (.getfield 89, 3) := by decide +kernel
theorem zd280_10 : decode zxm280.2.1 10 = .ok (.iload_n 2, 1) := by decide +kernel
theorem zd280_11 : decode zxm280.2.1 11 = .ok (.iaload, 1) := by decide +kernel
theorem zd280_12 : decode zxm280.2.1 12 = .ok (.if_icmp .eq 5, 3) := by decide +kernel
theorem zd280_15 : decode zxm280.2.1 15 = .ok (.iconst 0, 1) := by decide +kernel
theorem zd280_16 : decode zxm280.2.1 16 = .ok (.ireturn, 1) := by decide +kernel
theorem zd280_17 : decode zxm280.2.1 17 = .ok (.iconst 0, 1) := by decide +kernel
theorem zd280_18 : decode zxm280.2.1 18 = .ok (.istore_n 3, 1) := by decide +kernel
theorem zd280_19 : decode zxm280.2.1 19 = .ok (.iload_n 3, 1) := by decide +kernel
theorem zd280_20 : decode zxm280.2.1 20 = .ok (.aload_n 0, 1) := by decide +kernel
theorem zd280_21 : decode zxm280.2.1 21 = .ok (.getfield 89, 3) := by decide +kernel
theorem zd280_24 : decode zxm280.2.1 24 = .ok (.iload_n 1, 1) := by decide +kernel
theorem zd280_25 : decode zxm280.2.1 25 = .ok (.iaload, 1) := by decide +kernel
theorem zd280_26 : decode zxm280.2.1 26 = .ok (.if_icmp .ge 36, 3) := by decide +kernel
theorem zd280_29 : decode zxm280.2.1 29 = .ok (.aload_n 0, 1) := by decide +kernel
theorem zd280_30 : decode zxm280.2.1 30 = .ok (.getfield 86, 3) := by decide +kernel
theorem zd280_33 : decode zxm280.2.1 33 = .ok (.bipush 24, 2) := by decide +kernel
theorem zd280_35 : decode zxm280.2.1 35 = .ok (.iload_n 1, 1) := by decide +kernel
theorem zd280_36 : decode zxm280.2.1 36 = .ok (.imul, 1) := by decide +kernel
theorem zd280_37 : decode zxm280.2.1 37 = .ok (.iload_n 3, 1) := by decide +kernel
theorem zd280_38 : decode zxm280.2.1 38 = .ok (.iadd, 1) := by decide +kernel
theorem zd280_39 : decode zxm280.2.1 39 = .ok (.iaload, 1) := by decide +kernel
theorem zd280_40 : decode zxm280.2.1 40 = .ok (.aload_n 0, 1) := by decide +kernel
theorem zd280_41 : decode zxm280.2.1 41 = .ok (.getfield 86, 3) := by decide +kernel
theorem zd280_44 : decode zxm280.2.1 44 = .ok (.bipush 24, 2) := by decide +kernel
theorem zd280_46 : decode zxm280.2.1 46 = .ok (.iload_n 2, 1) := by decide +kernel
theorem zd280_47 : decode zxm280.2.1 47 = .ok (.imul, 1) := by decide +kernel
theorem zd280_48 : decode zxm280.2.1 48 = .ok (.iload_n 3, 1) := by decide +kernel
theorem zd280_49 : decode zxm280.2.1 49 = .ok (.iadd, 1) := by decide +kernel
theorem zd280_50 : decode zxm280.2.1 50 = .ok (.iaload, 1) := by decide +kernel
theorem zd280_51 : decode zxm280.2.1 51 = .ok (.if_icmp .eq 5, 3) := by decide +kernel
theorem zd280_54 : decode zxm280.2.1 54 = .ok (.iconst 0, 1) := by decide +kernel
theorem zd280_55 : decode zxm280.2.1 55 = .ok (.ireturn, 1) := by decide +kernel
theorem zd280_56 : decode zxm280.2.1 56 = .ok (.iinc 3 1, 3) := by decide +kernel
theorem zd280_59 : decode zxm280.2.1 59 = .ok (.goto (-40), 3) := by decide +kernel
theorem zd280_62 : decode zxm280.2.1 62 = .ok (.iconst 1, 1) := by decide +kernel
theorem zd280_63 : decode zxm280.2.1 63 = .ok (.ireturn, 1) := by decide +kernel
theorem zt_M_areAlike {x1 : Int} {x2 : Int} {g0 : (Int → Int)} {g1 : (Int → Int)} {o : Int} (h : zf_M_areAlike x1 x2 g0 g1 = some o) : zv_Fn z_TB z_cl z_KX zy_M_areAlike zxm280 (0, 0) [.inr 0, .inl x1, .inl x2] [] [g0, g1] (some o) [] [g0, g1] := zv_meth (K := (z_KF13, z_KC13, z_KL13, z_KT13, [], [], [], none)) (FT := z_FT) (MT := z_MT) (n := 3) zxp280 (z_ks13 _ (fun _ h => List.mem_cons_of_mem _ h) _ _ _ _ (fun j r h _ => by cases h)) (fun _ _ => zs_KX_p) zyw_M_areAlike (fun va F G h => by obtain ⟨rfl, _⟩ := h; rfl) (fun va F G h => by obtain ⟨rfl, _⟩ := h; rfl) rfl fun good va F G hB hret hvret hP => by
  obtain ⟨rfl, rfl, rfl⟩ := hP
  have l0 : ∀ (n : Nat) (x1 : Int) (x2 : Int) (x3 : Int) (q : ((Unit) ⊕ (Int))), zf_M_areAlike_l0 x1 x2 g0 g1 n x3 = some q → (Sum.elim (fun e : Unit => good 62 [.inr 1000, .inr 1000, .inr 1000, .inr 1000] [] [] [g0, g1]) (fun w : Int => w = o) q) → good 19 [.inr 0, .inl x1, .inl x2, .inl x3] [] [] [g0, g1] := by
    intro n
    induction n with
    | zero => intro x1 x2 x3 q h; exact absurd (show none = some q from h) (fun h => by cases h)
    | succ n ih =>
      intro x1 x2 x3 q h hK
      replace h : zf_M_areAlike_l0_b x1 x2 g0 g1 (zf_M_areAlike_l0 x1 x2 g0 g1 n) x3 = some q := h
      unfold zf_M_areAlike_l0_b at h
      refine zv_ild hB zd280_19 rfl rfl ?_
      refine zv_ald hB zd280_20 rfl rfl rfl ?_
      refine zv_getr hB zd280_21 rfl ?_
      refine zv_ild hB zd280_24 rfl rfl ?_
      obtain ⟨c4, h⟩ := zi_if h
      refine zv_iald hB zd280_25 rfl rfl (zi_ix_ok c4).1 (zi_ix_ok c4).2 (fun _ _ => ?_)
      refine zv_cge hB zd280_26 rfl (fun hc5 => ?_) (fun hc5 => ?_)
      · rw [if_neg (Int.not_lt.mpr hc5)] at h
        have hq := Option.some.inj h
        subst hq
        refine zv_wk hB (L' := [.inr 1000, .inr 1000, .inr 1000, .inr 1000]) (F' := []) ⟨fun (h : zv_is (.inr 1000)) => (Nat.lt_irrefl 1000 h).elim, fun (h : zv_is (.inr 1000)) => (Nat.lt_irrefl 1000 h).elim, fun (h : zv_is (.inr 1000)) => (Nat.lt_irrefl 1000 h).elim, fun (h : zv_is (.inr 1000)) => (Nat.lt_irrefl 1000 h).elim, trivial⟩ trivial ?_
        exact hK
      · rw [if_pos hc5] at h
        refine zv_ald hB zd280_29 rfl rfl rfl ?_
        refine zv_getr hB zd280_30 rfl ?_
        refine zv_con hB zd280_33 rfl ?_
        refine zv_ild hB zd280_35 rfl rfl ?_
        refine zv_mulw hB zd280_36 ?_
        refine zv_ild hB zd280_37 rfl rfl ?_
        refine zv_addw hB zd280_38 ?_
        obtain ⟨c6, h⟩ := zi_if h
        refine zv_iald hB zd280_39 rfl rfl (zi_ix_ok c6).1 (zi_ix_ok c6).2 (fun _ _ => ?_)
        refine zv_ald hB zd280_40 rfl rfl rfl ?_
        refine zv_getr hB zd280_41 rfl ?_
        refine zv_con hB zd280_44 rfl ?_
        refine zv_ild hB zd280_46 rfl rfl ?_
        refine zv_mulw hB zd280_47 ?_
        refine zv_ild hB zd280_48 rfl rfl ?_
        refine zv_addw hB zd280_49 ?_
        obtain ⟨c7, h⟩ := zi_if h
        refine zv_iald hB zd280_50 rfl rfl (zi_ix_ok c7).1 (zi_ix_ok c7).2 (fun _ _ => ?_)
        refine zv_ceq hB zd280_51 rfl (fun hc8 => ?_) (fun hc8 => ?_)
        · rw [if_pos hc8] at h
          refine zv_iincw hB zd280_56 rfl rfl ?_
          refine zv_goto hB zd280_59 rfl ?_
          exact ih _ _ _ q h hK
        · rw [if_neg hc8] at h
          refine zv_con hB zd280_54 rfl ?_
          have hw : 0 = o := zi_rk (Option.some.inj h) hK
          subst hw
          exact hret _ _ _ _ _ zd280_55 (by constructor <;> decide) ⟨rfl, rfl, rfl⟩
  unfold zf_M_areAlike at h
  refine zv_ald hB zd280_0 rfl rfl rfl ?_
  refine zv_getr hB zd280_1 rfl ?_
  refine zv_ild hB zd280_4 rfl rfl ?_
  obtain ⟨c1, h⟩ := zi_if h
  refine zv_iald hB zd280_5 rfl rfl (zi_ix_ok c1).1 (zi_ix_ok c1).2 (fun _ _ => ?_)
  refine zv_ald hB zd280_6 rfl rfl rfl ?_
  refine zv_getr hB zd280_7 rfl ?_
  refine zv_ild hB zd280_10 rfl rfl ?_
  obtain ⟨c2, h⟩ := zi_if h
  refine zv_iald hB zd280_11 rfl rfl (zi_ix_ok c2).1 (zi_ix_ok c2).2 (fun _ _ => ?_)
  refine zv_ceq hB zd280_12 rfl (fun hc3 => ?_) (fun hc3 => ?_)
  · rw [if_pos hc3] at h
    refine zv_con hB zd280_17 rfl ?_
    refine zv_ist hB zd280_18 rfl rfl rfl ?_
    obtain ⟨q9, hq9, h⟩ := zi_bind h
    refine l0 _ _ _ _ q9 hq9 ?_
    rcases q9 with e10 | w11
    · replace h := zi_sl h
      show good 62 [.inr 1000, .inr 1000, .inr 1000, .inr 1000] [] [] [g0, g1]
      refine zv_con hB zd280_62 rfl ?_
      have hw := Option.some.inj h
      subst hw
      exact hret _ _ _ _ _ zd280_63 (by constructor <;> decide) ⟨rfl, rfl, rfl⟩
    · exact Option.some.inj h
  · rw [if_neg hc3] at h
    refine zv_con hB zd280_15 rfl ?_
    have hw := Option.some.inj h
    subst hw
    exact hret _ _ _ _ _ zd280_16 (by constructor <;> decide) ⟨rfl, rfl, rfl⟩
/-! M_alikeFrom (II)I -/
-- names: 0 StarTalesModel('arg', 0), 1 (0, 288)(0, 12, 43), 2 (0, 6912)(0, 12, 42)
-- fields: ; arrays: g0 = 1, g1 = 2; out: [('ret', None)]
abbrev zy_M_alikeFrom : zNL := (3, [(0, 12)], [], [(0, 12, 43, 1), (0, 12, 42, 2)], [(1, 0, 288, 0), (2, 0, 6912, 1)])
theorem zyw_M_alikeFrom : zv_wf zy_M_alikeFrom = true := by decide +kernel
theorem zye_M_alikeFrom : zv_ek2 zy_M_alikeFrom = true := by decide +kernel
def zf_M_alikeFrom_l0_b (x1 : Int) (g0 : (Int → Int)) (g1 : (Int → Int)) (rec : Int → Option (((Unit) ⊕ (Int)))) (x3 : Int) : Option (((Unit) ⊕ (Int))) := if x3 < 288 then (if x3 = x1 then (rec (zi_w (x3 + 1))) else ((zf_M_areAlike x1 x3 g0 g1).bind fun r3 => (if r3 = 0 then (rec (zi_w (x3 + 1))) else (some (.inr x3))))) else (some (.inl ()))
def zf_M_alikeFrom_l0 (x1 : Int) (g0 : (Int → Int)) (g1 : (Int → Int)) : Nat → Int → Option (((Unit) ⊕ (Int)))
  | 0, _ => none
  | n + 1, x3 => zf_M_alikeFrom_l0_b x1 g0 g1 (zf_M_alikeFrom_l0 x1 g0 g1 n) x3
def zf_M_alikeFrom (x1 : Int) (x2 : Int) (g0 : (Int → Int)) (g1 : (Int → Int)) : Option (Int) := (zf_M_alikeFrom_l0 x1 g0 g1 zi_fu x2).bind fun q5 => Sum.elim (fun e6 => (some (-1))) (fun w7 => some w7) q5
theorem zd279_0 : decode zxm279.2.1 0 = .ok (.iload_n 2, 1) := by decide +kernel
theorem zd279_1 : decode zxm279.2.1 1 = .ok (.istore_n 3, 1) := by decide +kernel
theorem zd279_2 : decode zxm279.2.1 2 = .ok (.iload_n 3, 1) := by decide +kernel
theorem zd279_3 : decode zxm279.2.1 3 = .ok (.sipush 288, 3) := by decide +kernel
theorem zd279_6 : decode zxm279.2.1 6 = .ok (.if_icmp .ge 25, 3) := by decide +kernel
theorem zd279_9 : decode zxm279.2.1 9 = .ok (.iload_n 3, 1) := by decide +kernel
theorem zd279_10 : decode zxm279.2.1 10 = .ok (.iload_n 1, 1) := by decide +kernel
theorem zd279_11 : decode zxm279.2.1 11 = .ok (.if_icmp .eq 14, 3) := by decide +kernel
theorem zd279_14 : decode zxm279.2.1 14 = .ok (.aload_n 0, 1) := by decide +kernel
theorem zd279_15 : decode zxm279.2.1 15 = .ok (.iload_n 1, 1) := by decide +kernel
theorem zd279_16 : decode zxm279.2.1 16 = .ok (.iload_n 3, 1) := by decide +kernel
theorem zd279_17 : decode zxm279.2.1 17 = .ok (.invokevirtual 382, 3) := by decide +kernel
theorem zd279_20 : decode zxm279.2.1 20 = .ok (.ifCond .eq 5, 3) := by decide +kernel
theorem zd279_23 : decode zxm279.2.1 23 = .ok (.iload_n 3, 1) := by decide +kernel
theorem zd279_24 : decode zxm279.2.1 24 = .ok (.ireturn, 1) := by decide +kernel
theorem zd279_25 : decode zxm279.2.1 25 = .ok (.iinc 3 1, 3) := by decide +kernel
theorem zd279_28 : decode zxm279.2.1 28 = .ok (.goto (-26), 3) := by decide +kernel
theorem zd279_31 : decode zxm279.2.1 31 = .ok (.iconst (-1), 1) := by decide +kernel
theorem zd279_32 : decode zxm279.2.1 32 = .ok (.ireturn, 1) := by decide +kernel
theorem zt_M_alikeFrom {x1 : Int} {x2 : Int} {g0 : (Int → Int)} {g1 : (Int → Int)} {o : Int} (h : zf_M_alikeFrom x1 x2 g0 g1 = some o) : zv_Fn z_TB z_cl z_KX zy_M_alikeFrom zxm279 (1, 60) [.inr 0, .inl x1, .inl x2] [] [g0, g1] (some o) [] [g0, g1] := zv_meth (K := (z_KF13, z_KC13, z_KL13, z_KT13, [], [], [], none)) (FT := z_FT) (MT := z_MT) (n := 3) zxp279 (z_ks13 _ (fun _ h => List.mem_cons_of_mem _ h) _ _ _ _ (fun j r h _ => by cases h)) (fun _ _ => zs_KX_p) zyw_M_alikeFrom (fun va F G h => by obtain ⟨rfl, _⟩ := h; rfl) (fun va F G h => by obtain ⟨rfl, _⟩ := h; rfl) rfl fun good va F G hB hret hvret hP => by
  obtain ⟨rfl, rfl, rfl⟩ := hP
  have l0 : ∀ (n : Nat) (x1 : Int) (x3 : Int) (q : ((Unit) ⊕ (Int))), zf_M_alikeFrom_l0 x1 g0 g1 n x3 = some q → (Sum.elim (fun e : Unit => good 31 [.inr 1000, .inr 1000, .inr 1000, .inr 1000] [] [] [g0, g1]) (fun w : Int => w = o) q) → good 2 [.inr 0, .inl x1, .inr 1000, .inl x3] [] [] [g0, g1] := by
    intro n
    induction n with
    | zero => intro x1 x3 q h; exact absurd (show none = some q from h) (fun h => by cases h)
    | succ n ih =>
      intro x1 x3 q h hK
      replace h : zf_M_alikeFrom_l0_b x1 g0 g1 (zf_M_alikeFrom_l0 x1 g0 g1 n) x3 = some q := h
      unfold zf_M_alikeFrom_l0_b at h
      refine zv_ild hB zd279_2 rfl rfl ?_
      refine zv_con hB zd279_3 rfl ?_
      refine zv_cge hB zd279_6 rfl (fun hc1 => ?_) (fun hc1 => ?_)
      · rw [if_neg (Int.not_lt.mpr hc1)] at h
        have hq := Option.some.inj h
        subst hq
        refine zv_wk hB (L' := [.inr 1000, .inr 1000, .inr 1000, .inr 1000]) (F' := []) ⟨fun (h : zv_is (.inr 1000)) => (Nat.lt_irrefl 1000 h).elim, fun (h : zv_is (.inr 1000)) => (Nat.lt_irrefl 1000 h).elim, fun (h : zv_is (.inr 1000)) => (Nat.lt_irrefl 1000 h).elim, fun (h : zv_is (.inr 1000)) => (Nat.lt_irrefl 1000 h).elim, trivial⟩ trivial ?_
        exact hK
      · rw [if_pos hc1] at h
        refine zv_ild hB zd279_9 rfl rfl ?_
        refine zv_ild hB zd279_10 rfl rfl ?_
        refine zv_ceq hB zd279_11 rfl (fun hc2 => ?_) (fun hc2 => ?_)
        · rw [if_pos hc2] at h
          refine zv_iincw hB zd279_25 rfl rfl ?_
          refine zv_goto hB zd279_28 rfl ?_
          exact ih _ _ q h hK
        · rw [if_neg hc2] at h
          refine zv_ald hB zd279_14 rfl rfl rfl ?_
          refine zv_ild hB zd279_15 rfl rfl ?_
          refine zv_ild hB zd279_16 rfl rfl ?_
          obtain ⟨r3, hr3, h⟩ := zi_bind h
          refine zv_cv hB (zv_emq (va2 := [.inr 0, .inl x1, .inl x3]) (F := []) (F' := []) (G := [g0, g1]) (G' := [g0, g1]) (ρ := [0, 1, 2]) (φ := []) (ψ := [0, 1]) [] [some 0, some 1] zyw_M_areAlike zyw_M_alikeFrom zye_M_alikeFrom (by decide +kernel) (zt_M_areAlike hr3) trivial ⟨rfl, rfl, trivial⟩ rfl rfl rfl rfl rfl rfl rfl) zd279_17 zxt280 rfl (by decide) (by decide) rfl ?_
          refine zv_zeq hB zd279_20 rfl (fun hc4 => ?_) (fun hc4 => ?_)
          · rw [if_pos hc4] at h
            refine zv_iincw hB zd279_25 rfl rfl ?_
            refine zv_goto hB zd279_28 rfl ?_
            exact ih _ _ q h hK
          · rw [if_neg hc4] at h
            refine zv_ild hB zd279_23 rfl rfl ?_
            have hw : x3 = o := zi_rk (Option.some.inj h) hK
            subst hw
            exact hret _ _ _ _ _ zd279_24 (by trivial) ⟨rfl, rfl, rfl⟩
  unfold zf_M_alikeFrom at h
  refine zv_ild hB zd279_0 rfl rfl ?_
  refine zv_ist hB zd279_1 rfl rfl rfl ?_
  obtain ⟨q5, hq5, h⟩ := zi_bind h
  refine zv_wk hB (L' := [.inr 0, .inl x1, .inr 1000, .inl x2]) (F' := []) ⟨fun _ => rfl, fun _ => rfl, fun (h : zv_is (.inr 1000)) => (Nat.lt_irrefl 1000 h).elim, fun _ => rfl, trivial⟩ trivial ?_
  refine l0 _ _ _ q5 hq5 ?_
  rcases q5 with e6 | w7
  · replace h := zi_sl h
    show good 31 [.inr 1000, .inr 1000, .inr 1000, .inr 1000] [] [] [g0, g1]
    refine zv_con hB zd279_31 rfl ?_
    have hw := Option.some.inj h
    subst hw
    exact hret _ _ _ _ _ zd279_32 (by trivial) ⟨rfl, rfl, rfl⟩
  · exact Option.some.inj h
/-! M_alike (I)I -/
-- names: 0 StarTalesModel('arg', 0), 1 (0, 422)(0, 12, 0), 2 (0, 14)(0, 12, 21), 3 (0, 13)(0, 12, 26), 4 (0, 14)(0, 12, 23), 5 (0, 14)(0, 12, 24), 6 (0, 220)(0, 12, 20), 7 (0, 220)(0, 12, 25), 8 (0, 24)(0, 12, 44), 9 (0, 288)(0, 12, 43), 10 (0, 6912)(0, 12, 42)
-- fields: f0 = 0.clauses_; arrays: g0 = 1, g1 = 2, g2 = 3, g3 = 4, g4 = 5, g5 = 6, g6 = 7, g7 = 8, g8 = 9, g9 = 10; out: [('ret', None), ('g', 2), ('g', 6), ('g', 7), ('g', 8), ('g', 9)]
abbrev zy_M_alike : zNL := (11, [(0, 12)], [(0, 12, 13, 0)], [(0, 12, 0, 1), (0, 12, 21, 2), (0, 12, 26, 3), (0, 12, 23, 4), (0, 12, 24, 5), (0, 12, 20, 6), (0, 12, 25, 7), (0, 12, 44, 8), (0, 12, 43, 9), (0, 12, 42, 10)], [(1, 0, 422, 0), (2, 0, 14, 1), (3, 0, 13, 2), (4, 0, 14, 3), (5, 0, 14, 4), (6, 0, 220, 5), (7, 0, 220, 6), (8, 0, 24, 7), (9, 0, 288, 8), (10, 0, 6912, 9)])
theorem zyw_M_alike : zv_wf zy_M_alike = true := by decide +kernel
theorem zye_M_alike : zv_ek2 zy_M_alike = true := by decide +kernel
def zf_M_alike_l0_b (g8 : (Int → Int)) (g9 : (Int → Int)) (rec : Int → Int → Int → Option (Int × Int)) (x2 : Int) (x3 : Int) (x4 : Int) : Option (Int × Int) := if x4 < 288 then (cond (zi_ix x4 288) (if (g8 x4) = 0 then (rec x2 x3 (zi_w (x4 + 1))) else ((zf_M_alikeFrom x4 0 g8 g9).bind fun r7 => (if r7 = (-1) then (rec x2 x3 (zi_w (x4 + 1))) else (if x3 = (-1) then (rec (zi_w (x2 + 1)) x4 (zi_w (x4 + 1))) else (rec (zi_w (x2 + 1)) x3 (zi_w (x4 + 1))))))) none) else (some (x2, x3))
def zf_M_alike_l0 (g8 : (Int → Int)) (g9 : (Int → Int)) : Nat → Int → Int → Int → Option (Int × Int)
  | 0, _, _, _ => none
  | n + 1, x2, x3, x4 => zf_M_alike_l0_b g8 g9 (zf_M_alike_l0 g8 g9 n) x2 x3 x4
def zf_M_alike (x1 : Int) (f0 : Int) (g0 : (Int → Int)) (g1 : (Int → Int)) (g2 : (Int → Int)) (g3 : (Int → Int)) (g4 : (Int → Int)) (g5 : (Int → Int)) (g6 : (Int → Int)) (g7 : (Int → Int)) (g8 : (Int → Int)) (g9 : (Int → Int)) : Option (Int × (Int → Int) × (Int → Int) × (Int → Int) × (Int → Int) × (Int → Int)) := (zf_M_in x1 0 2).bind fun r1 => (if r1 = 0 then (some ((-1), g2, g6, g7, g8, g9)) else ((zf_M_laysPatches f0 g0 g1 g2 g3 g4 g5 g6 g7 g8 g9).bind fun r3 => ((zf_M_alike_l0 r3.2.2.2.1 r3.2.2.2.2 zi_fu 0 (-1) 0).bind fun q10 => (if x1 = 0 then (some (q10.1, r3.1, r3.2.1, r3.2.2.1, r3.2.2.2.1, r3.2.2.2.2)) else (if q10.2 = (-1) then (some ((-2), r3.1, r3.2.1, r3.2.2.1, r3.2.2.2.1, r3.2.2.2.2)) else (if x1 = 1 then (some (q10.2, r3.1, r3.2.1, r3.2.2.1, r3.2.2.2.1, r3.2.2.2.2)) else ((zf_M_alikeFrom q10.2 (zi_w (q10.2 + 1)) r3.2.2.2.1 r3.2.2.2.2).bind fun r14 => (some (r14, r3.1, r3.2.1, r3.2.2.1, r3.2.2.2.1, r3.2.2.2.2)))))))))
theorem zd274_0 : decode zxm274.2.1 0 = .ok (.iload_n 1, 1) := by decide +kernel
theorem zd274_1 : decode zxm274.2.1 1 = .ok (.iconst 0, 1) := by decide +kernel
theorem zd274_2 : decode zxm274.2.1 2 = .ok (.iconst 2, 1) := by decide +kernel
theorem zd274_3 : decode zxm274.2.1 3 = .ok (.invokestatic 150, 3) := by decide +kernel
theorem zd274_6 : decode zxm274.2.1 6 = .ok (.ifCond .ne 5, 3) := by decide +kernel
theorem zd274_9 : decode zxm274.2.1 9 = .ok (.iconst (-1), 1) := by decide +kernel
theorem zd274_10 : decode zxm274.2.1 10 = .ok (.ireturn, 1) := by decide +kernel
theorem zd274_11 : decode zxm274.2.1 11 = .ok (.aload_n 0, 1) := by decide +kernel
theorem zd274_12 : decode zxm274.2.1 12 = .ok (.invokevirtual 385, 3) := by decide +kernel
theorem zd274_15 : decode zxm274.2.1 15 = .ok (.iconst 0, 1) := by decide +kernel
theorem zd274_16 : decode zxm274.2.1 16 = .ok (.istore_n 2, 1) := by decide +kernel
theorem zd274_17 : decode zxm274.2.1 17 = .ok (.iconst (-1), 1) := by decide +kernel
theorem zd274_18 : decode zxm274.2.1 18 = .ok (.istore_n 3, 1) := by decide +kernel
theorem zd274_19 : decode zxm274.2.1 19 = .ok (.iconst 0, 1) := by decide +kernel
theorem zd274_20 : decode zxm274.2.1 20 = .ok (.istore 4, 2) := by decide +kernel
theorem zd274_22 : decode zxm274.2.1 22 = .ok (.iload 4, 2) := by decide +kernel
theorem zd274_24 : decode zxm274.2.1 24 = .ok (.sipush 288, 3) := by decide +kernel
theorem zd274_27 : decode zxm274.2.1 27 = .ok (.if_icmp .ge 49, 3) := by decide +kernel
theorem zd274_30 : decode zxm274.2.1 30 = .ok (.aload_n 0, 1) := by decide +kernel
theorem zd274_31 : decode zxm274.2.1 31 = .ok (.getfield 89, 3) := by decide +kernel
theorem zd274_34 : decode zxm274.2.1 34 = .ok (.iload 4, 2) := by decide +kernel
theorem zd274_36 : decode zxm274.2.1 36 = .ok (.iaload, 1) := by decide +kernel
theorem zd274_37 : decode zxm274.2.1 37 = .ok (.ifCond .eq 33, 3) := by decide +kernel
theorem zd274_40 : decode zxm274.2.1 40 = .ok (.aload_n 0, 1) := by decide +kernel
theorem zd274_41 : decode zxm274.2.1 41 = .ok (.iload 4, 2) := by decide +kernel
theorem zd274_43 : decode zxm274.2.1 43 = .ok (.iconst 0, 1) := by decide +kernel
theorem zd274_44 : decode zxm274.2.1 44 = .ok (.invokevirtual 388, 3) := by decide +kernel
theorem zd274_47 : decode zxm274.2.1 47 = .ok (.iconst (-1), 1) := by decide +kernel
theorem zd274_48 : decode zxm274.2.1 48 = .ok (.if_icmp .ne 6, 3) := by decide +kernel
theorem zd274_51 : decode zxm274.2.1 51 = .ok (.goto 19, 3) := by decide +kernel
theorem zd274_54 : decode zxm274.2.1 54 = .ok (.iload_n 3, 1) := by decide +kernel
theorem zd274_55 : decode zxm274.2.1 55 = .ok (.iconst (-1), 1) := by decide +kernel
theorem zd274_56 : decode zxm274.2.1 56 = .ok (.if_icmp .ne 8, 3) := by decide +kernel
theorem zd274_59 : decode zxm274.2.1 59 = .ok (.iload 4, 2) := by decide +kernel
theorem zd274_61 : decode zxm274.2.1 61 = .ok (.goto 4, 3) := by decide +kernel
theorem zd274_64 : decode zxm274.2.1 64 = .ok (.iload_n 3, 1) := by decide +kernel
theorem zd274_65 : decode zxm274.2.1 65 = .ok (.istore_n 3, 1) := by decide +kernel
theorem zd274_66 : decode zxm274.2.1 66 = .ok (.iload_n 2, 1) := by decide +kernel
theorem zd274_67 : decode zxm274.2.1 67 = .ok (.iconst 1, 1) := by decide +kernel
theorem zd274_68 : decode zxm274.2.1 68 = .ok (.iadd, 1) := by decide +kernel
theorem zd274_69 : decode zxm274.2.1 69 = .ok (.istore_n 2, 1) := by decide +kernel
theorem zd274_70 : decode zxm274.2.1 70 = .ok (.iinc 4 1, 3) := by decide +kernel
theorem zd274_73 : decode zxm274.2.1 73 = .ok (.goto (-51), 3) := by decide +kernel
theorem zd274_76 : decode zxm274.2.1 76 = .ok (.iload_n 1, 1) := by decide +kernel
theorem zd274_77 : decode zxm274.2.1 77 = .ok (.ifCond .ne 5, 3) := by decide +kernel
theorem zd274_80 : decode zxm274.2.1 80 = .ok (.iload_n 2, 1) := by decide +kernel
theorem zd274_81 : decode zxm274.2.1 81 = .ok (.ireturn, 1) := by decide +kernel
theorem zd274_82 : decode zxm274.2.1 82 = .ok (.iload_n 3, 1) := by decide +kernel
theorem zd274_83 : decode zxm274.2.1 83 = .ok (.iconst (-1), 1) := by decide +kernel
theorem zd274_84 : decode zxm274.2.1 84 = .ok (.if_icmp .ne 8, 3) := by decide +kernel
theorem zd274_87 : decode zxm274.2.1 87 = .ok (.bipush (-2), 2) := by decide +kernel
theorem zd274_89 : decode zxm274.2.1 89 = .ok (.goto 20, 3) := by decide +kernel
theorem zd274_92 : decode zxm274.2.1 92 = .ok (.iload_n 1, 1) := by decide +kernel
theorem zd274_93 : decode zxm274.2.1 93 = .ok (.iconst 1, 1) := by decide +kernel
theorem zd274_94 : decode zxm274.2.1 94 = .ok (.if_icmp .ne 7, 3) := by decide +kernel
theorem zd274_97 : decode zxm274.2.1 97 = .ok (.iload_n 3, 1) := by decide +kernel
theorem zd274_98 : decode zxm274.2.1 98 = .ok (.goto 11, 3) := by decide +kernel
theorem zd274_101 : decode zxm274.2.1 101 = .ok (.aload_n 0, 1) := by decide +kernel
theorem zd274_102 : decode zxm274.2.1 102 = .ok (.iload_n 3, 1) := by decide +kernel
theorem zd274_103 : decode zxm274.2.1 103 = .ok (.iload_n 3, 1) := by decide +kernel
theorem zd274_104 : decode zxm274.2.1 104 = .ok (.iconst 1, 1) := by decide +kernel
theorem zd274_105 : decode zxm274.2.1 105 = .ok (.iadd, 1) := by decide +kernel
theorem zd274_106 : decode zxm274.2.1 106 = .ok (.invokevirtual 388, 3) := by decide +kernel
theorem zd274_109 : decode zxm274.2.1 109 = .ok (.ireturn, 1) := by decide +kernel
theorem zt_M_alike {x1 : Int} {f0 : Int} {g0 : (Int → Int)} {g1 : (Int → Int)} {g2 : (Int → Int)} {g3 : (Int → Int)} {g4 : (Int → Int)} {g5 : (Int → Int)} {g6 : (Int → Int)} {g7 : (Int → Int)} {g8 : (Int → Int)} {g9 : (Int → Int)} {o : Int × (Int → Int) × (Int → Int) × (Int → Int) × (Int → Int) × (Int → Int)} (h : zf_M_alike x1 f0 g0 g1 g2 g3 g4 g5 g6 g7 g8 g9 = some o) : zv_Fn z_TB z_cl z_KX zy_M_alike zxm274 (7, 420) [.inr 0, .inl x1] [.inl f0] [g0, g1, g2, g3, g4, g5, g6, g7, g8, g9] (some o.1) [.inl f0] [g0, g1, o.2.1, g3, g4, g5, o.2.2.1, o.2.2.2.1, o.2.2.2.2.1, o.2.2.2.2.2] := zv_meth (K := (z_KF13, z_KC13, z_KL13, z_KT13, [], [], [], none)) (FT := z_FT) (MT := z_MT) (n := 2) zxp274 (z_ks13 _ (fun _ h => List.mem_cons_of_mem _ h) _ _ _ _ (fun j r h _ => by cases h)) (fun _ _ => zs_KX_p) zyw_M_alike (fun va F G h => by obtain ⟨rfl, _⟩ := h; rfl) (fun va F G h => by obtain ⟨rfl, _⟩ := h; rfl) rfl fun good va F G hB hret hvret hP => by
  obtain ⟨rfl, rfl, rfl⟩ := hP
  have l0 : ∀ (n : Nat) (x1 : Int) (x2 : Int) (x3 : Int) (x4 : Int) (g2 : (Int → Int)) (g6 : (Int → Int)) (g7 : (Int → Int)) (g8 : (Int → Int)) (g9 : (Int → Int)) (q : Int × Int), zf_M_alike_l0 g8 g9 n x2 x3 x4 = some q → (good 76 [.inr 0, .inl x1, .inl q.1, .inl q.2, .inr 1000] [] [.inl f0] [g0, g1, g2, g3, g4, g5, g6, g7, g8, g9]) → good 22 [.inr 0, .inl x1, .inl x2, .inl x3, .inl x4] [] [.inl f0] [g0, g1, g2, g3, g4, g5, g6, g7, g8, g9] := by
    intro n
    induction n with
    | zero => intro x1 x2 x3 x4 g2 g6 g7 g8 g9 q h; exact absurd (show none = some q from h) (fun h => by cases h)
    | succ n ih =>
      intro x1 x2 x3 x4 g2 g6 g7 g8 g9 q h hK
      replace h : zf_M_alike_l0_b g8 g9 (zf_M_alike_l0 g8 g9 n) x2 x3 x4 = some q := h
      unfold zf_M_alike_l0_b at h
      refine zv_ild hB zd274_22 rfl rfl ?_
      refine zv_con hB zd274_24 rfl ?_
      refine zv_cge hB zd274_27 rfl (fun hc4 => ?_) (fun hc4 => ?_)
      · rw [if_neg (Int.not_lt.mpr hc4)] at h
        have hq := Option.some.inj h
        subst hq
        refine zv_wk hB (L' := [.inr 0, .inl x1, .inl x2, .inl x3, .inr 1000]) (F' := [.inl f0]) ⟨fun _ => rfl, fun _ => rfl, fun _ => rfl, fun _ => rfl, fun (h : zv_is (.inr 1000)) => (Nat.lt_irrefl 1000 h).elim, trivial⟩ ⟨fun _ => rfl, trivial⟩ ?_
        exact hK
      · rw [if_pos hc4] at h
        refine zv_ald hB zd274_30 rfl rfl rfl ?_
        refine zv_getr hB zd274_31 rfl ?_
        refine zv_ild hB zd274_34 rfl rfl ?_
        obtain ⟨c5, h⟩ := zi_if h
        refine zv_iald hB zd274_36 rfl rfl (zi_ix_ok c5).1 (zi_ix_ok c5).2 (fun _ _ => ?_)
        refine zv_zeq hB zd274_37 rfl (fun hc6 => ?_) (fun hc6 => ?_)
        · rw [if_pos hc6] at h
          refine zv_iincw hB zd274_70 rfl rfl ?_
          refine zv_goto hB zd274_73 rfl ?_
          exact ih _ _ _ _ _ _ _ _ _ q h hK
        · rw [if_neg hc6] at h
          refine zv_ald hB zd274_40 rfl rfl rfl ?_
          refine zv_ild hB zd274_41 rfl rfl ?_
          refine zv_con hB zd274_43 rfl ?_
          obtain ⟨r7, hr7, h⟩ := zi_bind h
          refine zv_cv hB (zv_emq (va2 := [.inr 0, .inl x4, .inl 0]) (F := [.inl f0]) (F' := [.inl f0]) (G := [g0, g1, g2, g3, g4, g5, g6, g7, g8, g9]) (G' := [g0, g1, g2, g3, g4, g5, g6, g7, g8, g9]) (ρ := [0, 9, 10]) (φ := []) (ψ := [8, 9]) [none] [none, none, none, none, none, none, none, none, some 0, some 1] zyw_M_alikeFrom zyw_M_alike zye_M_alike (by decide +kernel) (zt_M_alikeFrom hr7) trivial ⟨rfl, rfl, trivial⟩ rfl rfl rfl rfl rfl rfl rfl) zd274_44 zxt279 rfl (by decide) (by decide) rfl ?_
          refine zv_con hB zd274_47 rfl ?_
          refine zv_cne hB zd274_48 rfl (fun hc8 => ?_) (fun hc8 => ?_)
          · rw [if_neg hc8] at h
            refine zv_ild hB zd274_54 rfl rfl ?_
            refine zv_con hB zd274_55 rfl ?_
            refine zv_cne hB zd274_56 rfl (fun hc9 => ?_) (fun hc9 => ?_)
            · rw [if_neg hc9] at h
              refine zv_ild hB zd274_64 rfl rfl ?_
              refine zv_ist hB zd274_65 rfl rfl rfl ?_
              refine zv_ild hB zd274_66 rfl rfl ?_
              refine zv_con hB zd274_67 rfl ?_
              refine zv_addw hB zd274_68 ?_
              refine zv_ist hB zd274_69 rfl rfl rfl ?_
              refine zv_iincw hB zd274_70 rfl rfl ?_
              refine zv_goto hB zd274_73 rfl ?_
              exact ih _ _ _ _ _ _ _ _ _ q h hK
            · rw [if_pos hc9] at h
              refine zv_ild hB zd274_59 rfl rfl ?_
              refine zv_goto hB zd274_61 rfl ?_
              refine zv_ist hB zd274_65 rfl rfl rfl ?_
              refine zv_ild hB zd274_66 rfl rfl ?_
              refine zv_con hB zd274_67 rfl ?_
              refine zv_addw hB zd274_68 ?_
              refine zv_ist hB zd274_69 rfl rfl rfl ?_
              refine zv_iincw hB zd274_70 rfl rfl ?_
              refine zv_goto hB zd274_73 rfl ?_
              exact ih _ _ _ _ _ _ _ _ _ q h hK
          · rw [if_pos hc8] at h
            refine zv_goto hB zd274_51 rfl ?_
            refine zv_iincw hB zd274_70 rfl rfl ?_
            refine zv_goto hB zd274_73 rfl ?_
            exact ih _ _ _ _ _ _ _ _ _ q h hK
  unfold zf_M_alike at h
  refine zv_ild hB zd274_0 rfl rfl ?_
  refine zv_con hB zd274_1 rfl ?_
  refine zv_con hB zd274_2 rfl ?_
  obtain ⟨r1, hr1, h⟩ := zi_bind h
  refine zv_cs hB (zv_emq (va2 := [.inl x1, .inl 0, .inl 2]) (F := [.inl f0]) (F' := [.inl f0]) (G := [g0, g1, g2, g3, g4, g5, g6, g7, g8, g9]) (G' := [g0, g1, g2, g3, g4, g5, g6, g7, g8, g9]) (ρ := []) (φ := []) (ψ := []) [none] [none, none, none, none, none, none, none, none, none, none] zyw_M_in zyw_M_alike zye_M_alike (by decide +kernel) (zt_M_in hr1) trivial trivial rfl rfl rfl rfl rfl rfl rfl) zd274_3 zxt200 rfl (by decide) (by decide) rfl ?_
  refine zv_zne hB zd274_6 rfl (fun hc2 => ?_) (fun hc2 => ?_)
  · rw [if_neg hc2] at h
    refine zv_ald hB zd274_11 rfl rfl rfl ?_
    obtain ⟨r3, hr3, h⟩ := zi_bind h
    refine zv_cv hB (zv_emq (va2 := [.inr 0]) (F := [.inl f0]) (F' := [.inl f0]) (G := [g0, g1, g2, g3, g4, g5, g6, g7, g8, g9]) (G' := [g0, g1, r3.1, g3, g4, g5, r3.2.1, r3.2.2.1, r3.2.2.2.1, r3.2.2.2.2]) (ρ := [0, 1, 2, 3, 4, 5, 6, 7, 8, 9, 10]) (φ := [0]) (ψ := [0, 1, 2, 3, 4, 5, 6, 7, 8, 9]) [some 0] [some 0, some 1, some 2, some 3, some 4, some 5, some 6, some 7, some 8, some 9] zyw_M_laysPatches zyw_M_alike zye_M_alike (by decide +kernel) (zt_M_laysPatches hr3) ⟨⟨_, rfl, fun _ => rfl⟩, trivial⟩ ⟨rfl, rfl, rfl, rfl, rfl, rfl, rfl, rfl, rfl, rfl, trivial⟩ rfl rfl rfl rfl rfl rfl rfl) zd274_12 zxt275 rfl (by decide) (by decide) rfl ?_
    refine zv_con hB zd274_15 rfl ?_
    refine zv_ist hB zd274_16 rfl rfl rfl ?_
    refine zv_con hB zd274_17 rfl ?_
    refine zv_ist hB zd274_18 rfl rfl rfl ?_
    refine zv_con hB zd274_19 rfl ?_
    refine zv_ist hB zd274_20 rfl rfl rfl ?_
    obtain ⟨q10, hq10, h⟩ := zi_bind h
    refine l0 _ _ _ _ _ _ _ _ _ _ q10 hq10 ?_
    show good 76 [.inr 0, .inl x1, .inl q10.1, .inl q10.2, .inr 1000] [] [.inl f0] [g0, g1, r3.1, g3, g4, g5, r3.2.1, r3.2.2.1, r3.2.2.2.1, r3.2.2.2.2]
    refine zv_ild hB zd274_76 rfl rfl ?_
    refine zv_zne hB zd274_77 rfl (fun hc11 => ?_) (fun hc11 => ?_)
    · rw [if_neg hc11] at h
      refine zv_ild hB zd274_82 rfl rfl ?_
      refine zv_con hB zd274_83 rfl ?_
      refine zv_cne hB zd274_84 rfl (fun hc12 => ?_) (fun hc12 => ?_)
      · rw [if_neg hc12] at h
        refine zv_ild hB zd274_92 rfl rfl ?_
        refine zv_con hB zd274_93 rfl ?_
        refine zv_cne hB zd274_94 rfl (fun hc13 => ?_) (fun hc13 => ?_)
        · rw [if_neg hc13] at h
          refine zv_ald hB zd274_101 rfl rfl rfl ?_
          refine zv_ild hB zd274_102 rfl rfl ?_
          refine zv_ild hB zd274_103 rfl rfl ?_
          refine zv_con hB zd274_104 rfl ?_
          refine zv_addw hB zd274_105 ?_
          obtain ⟨r14, hr14, h⟩ := zi_bind h
          refine zv_cv hB (zv_emq (va2 := [.inr 0, .inl q10.2, .inl (zi_w (q10.2 + 1))]) (F := [.inl f0]) (F' := [.inl f0]) (G := [g0, g1, r3.1, g3, g4, g5, r3.2.1, r3.2.2.1, r3.2.2.2.1, r3.2.2.2.2]) (G' := [g0, g1, r3.1, g3, g4, g5, r3.2.1, r3.2.2.1, r3.2.2.2.1, r3.2.2.2.2]) (ρ := [0, 9, 10]) (φ := []) (ψ := [8, 9]) [none] [none, none, none, none, none, none, none, none, some 0, some 1] zyw_M_alikeFrom zyw_M_alike zye_M_alike (by decide +kernel) (zt_M_alikeFrom hr14) trivial ⟨rfl, rfl, trivial⟩ rfl rfl rfl rfl rfl rfl rfl) zd274_106 zxt279 rfl (by decide) (by decide) rfl ?_
          have hw := Option.some.inj h
          subst hw
          exact hret _ _ _ _ _ zd274_109 (by trivial) ⟨rfl, rfl, rfl⟩
        · rw [if_pos hc13] at h
          refine zv_ild hB zd274_97 rfl rfl ?_
          refine zv_goto hB zd274_98 rfl ?_
          have hw := Option.some.inj h
          subst hw
          exact hret _ _ _ _ _ zd274_109 (by trivial) ⟨rfl, rfl, rfl⟩
      · rw [if_pos hc12] at h
        refine zv_con hB zd274_87 rfl ?_
        refine zv_goto hB zd274_89 rfl ?_
        have hw := Option.some.inj h
        subst hw
        exact hret _ _ _ _ _ zd274_109 (by trivial) ⟨rfl, rfl, rfl⟩
    · rw [if_pos hc11] at h
      refine zv_ild hB zd274_80 rfl rfl ?_
      have hw := Option.some.inj h
      subst hw
      exact hret _ _ _ _ _ zd274_81 (by trivial) ⟨rfl, rfl, rfl⟩
  · rw [if_pos hc2] at h
    refine zv_con hB zd274_9 rfl ?_
    have hw := Option.some.inj h
    subst hw
    exact hret _ _ _ _ _ zd274_10 (by trivial) ⟨rfl, rfl, rfl⟩
/-! M_puts_12 ([III)V -/
-- names: 0 (0, 12)('arg', 0)
-- fields: ; arrays: g0 = 0; out: [('g', 0)]
abbrev zy_M_puts_12 : zNL := (1, [], [], [], [(0, 0, 12, 0)])
theorem zyw_M_puts_12 : zv_wf zy_M_puts_12 = true := by decide +kernel
theorem zye_M_puts_12 : zv_ek2 zy_M_puts_12 = true := by decide +kernel
def zf_M_puts_12_l0_b (x2 : Int) (rec : Int → (Int → Int) → Option (Int × (Int → Int))) (x3 : Int) (g0 : (Int → Int)) : Option (Int × (Int → Int)) := if 0 < x3 then (cond (zi_ix (zi_w (x3 - 1)) 12) (if x2 < (g0 (zi_w (x3 - 1))) then (cond (zi_ix x3 12) (rec (zi_w (x3 - 1)) (zv_up g0 x3 (g0 (zi_w (x3 - 1))))) none) else (some (x3, g0))) none) else (some (x3, g0))
def zf_M_puts_12_l0 (x2 : Int) : Nat → Int → (Int → Int) → Option (Int × (Int → Int))
  | 0, _, _ => none
  | n + 1, x3, g0 => zf_M_puts_12_l0_b x2 (zf_M_puts_12_l0 x2 n) x3 g0
def zf_M_puts_12 (x1 : Int) (x2 : Int) (g0 : (Int → Int)) : Option ((Int → Int)) := (zf_M_puts_12_l0 x2 zi_fu x1 g0).bind fun q5 => (cond (zi_ix q5.1 12) (some (zv_up q5.2 q5.1 x2)) none)
theorem zt_M_puts_12 {x1 : Int} {x2 : Int} {g0 : (Int → Int)} {o : (Int → Int)} (h : zf_M_puts_12 x1 x2 g0 = some o) : zv_Fn z_TB z_cl z_KX zy_M_puts_12 zxm278 (0, 0) [.inr 0, .inl x1, .inl x2] [] [g0] none [] [o] := zv_meth (K := (z_KF13, z_KC13, z_KL13, z_KT13, [], [], [], none)) (FT := z_FT) (MT := z_MT) (n := 3) zxp278 (z_ks13 _ (fun _ h => List.mem_cons_of_mem _ h) _ _ _ _ (fun j r h _ => by cases h)) (fun _ _ => zs_KX_p) zyw_M_puts_12 (fun va F G h => by obtain ⟨rfl, _⟩ := h; rfl) (fun va F G h => by obtain ⟨rfl, _⟩ := h; rfl) rfl fun good va F G hB hret hvret hP => by
  obtain ⟨rfl, rfl, rfl⟩ := hP
  have l0 : ∀ (n : Nat) (x2 : Int) (x3 : Int) (g0 : (Int → Int)) (q : Int × (Int → Int)), zf_M_puts_12_l0 x2 n x3 g0 = some q → (good 30 [.inr 0, .inr 1000, .inl x2, .inl q.1] [] [] [q.2]) → good 2 [.inr 0, .inr 1000, .inl x2, .inl x3] [] [] [g0] := by
    intro n
    induction n with
    | zero => intro x2 x3 g0 q h; exact absurd (show none = some q from h) (fun h => by cases h)
    | succ n ih =>
      intro x2 x3 g0 q h hK
      replace h : zf_M_puts_12_l0_b x2 (zf_M_puts_12_l0 x2 n) x3 g0 = some q := h
      unfold zf_M_puts_12_l0_b at h
      refine zv_ild hB zd278_2 rfl rfl ?_
      refine zv_zle hB zd278_3 rfl (fun hc1 => ?_) (fun hc1 => ?_)
      · rw [if_neg (Int.not_lt.mpr hc1)] at h
        have hq := Option.some.inj h
        subst hq
        exact hK
      · rw [if_pos hc1] at h
        refine zv_ald hB zd278_6 rfl rfl rfl ?_
        refine zv_ild hB zd278_7 rfl rfl ?_
        refine zv_con hB zd278_8 rfl ?_
        refine zv_subw hB zd278_9 ?_
        obtain ⟨c2, h⟩ := zi_if h
        refine zv_iald hB zd278_10 rfl rfl (zi_ix_ok c2).1 (zi_ix_ok c2).2 (fun _ _ => ?_)
        refine zv_ild hB zd278_11 rfl rfl ?_
        refine zv_cle hB zd278_12 rfl (fun hc3 => ?_) (fun hc3 => ?_)
        · rw [if_neg (Int.not_lt.mpr hc3)] at h
          have hq := Option.some.inj h
          subst hq
          exact hK
        · rw [if_pos hc3] at h
          refine zv_ald hB zd278_15 rfl rfl rfl ?_
          refine zv_ild hB zd278_16 rfl rfl ?_
          refine zv_ald hB zd278_17 rfl rfl rfl ?_
          refine zv_ild hB zd278_18 rfl rfl ?_
          refine zv_con hB zd278_19 rfl ?_
          refine zv_subw hB zd278_20 ?_
          refine zv_iald hB zd278_21 rfl rfl (zi_ix_ok c2).1 (zi_ix_ok c2).2 (fun _ _ => ?_)
          obtain ⟨c4, h⟩ := zi_if h
          refine zv_iast hB zd278_22 rfl rfl (zi_ix_ok c4).1 (zi_ix_ok c4).2 ?_
          refine zv_ild hB zd278_23 rfl rfl ?_
          refine zv_con hB zd278_24 rfl ?_
          refine zv_subw hB zd278_25 ?_
          refine zv_ist hB zd278_26 rfl rfl rfl ?_
          refine zv_goto hB zd278_27 rfl ?_
          exact ih _ _ _ q h hK
  unfold zf_M_puts_12 at h
  refine zv_ild hB zd278_0 rfl rfl ?_
  refine zv_ist hB zd278_1 rfl rfl rfl ?_
  obtain ⟨q5, hq5, h⟩ := zi_bind h
  refine zv_wk hB (L' := [.inr 0, .inr 1000, .inl x2, .inl x1]) (F' := []) ⟨fun _ => rfl, fun (h : zv_is (.inr 1000)) => (Nat.lt_irrefl 1000 h).elim, fun _ => rfl, fun _ => rfl, trivial⟩ trivial ?_
  refine l0 _ _ _ _ q5 hq5 ?_
  show good 30 [.inr 0, .inr 1000, .inl x2, .inl q5.1] [] [] [q5.2]
  refine zv_ald hB zd278_30 rfl rfl rfl ?_
  refine zv_ild hB zd278_31 rfl rfl ?_
  refine zv_ild hB zd278_32 rfl rfl ?_
  obtain ⟨c6, h⟩ := zi_if h
  refine zv_iast hB zd278_33 rfl rfl (zi_ix_ok c6).1 (zi_ix_ok c6).2 ?_
  have hw := Option.some.inj h
  subst hw
  exact hvret _ _ _ _ zd278_34 trivial ⟨rfl, rfl, rfl⟩
end
section
/-! Methods as functions, and that they do what these do. -/
/-! M_hasParts (II)Z -/
-- names: 0 StarTalesModel('arg', 0), 1 (0, 288)(0, 12, 43), 2 (0, 6912)(0, 12, 42), 3 (0, 12)(0, 12, 45)
-- fields: ; arrays: g0 = 1, g1 = 2, g2 = 3; out: [('ret', None)]
abbrev zy_M_hasParts : zNL := (4, [(0, 12)], [], [(0, 12, 43, 1), (0, 12, 42, 2), (0, 12, 45, 3)], [(1, 0, 288, 0), (2, 0, 6912, 1), (3, 0, 12, 2)])
theorem zyw_M_hasParts : zv_wf zy_M_hasParts = true := by decide +kernel
theorem zye_M_hasParts : zv_ek2 zy_M_hasParts = true := by decide +kernel
def zf_M_hasParts_l1_b (x1 : Int) (x4 : Int) (g0 : (Int → Int)) (g1 : (Int → Int)) (g2 : (Int → Int)) (rec : Int → Option (Int)) (x3 : Int) : Option (Int) := cond (zi_ix x1 288) (if x3 < (g0 x1) then (cond (zi_ix (zi_w ((zi_w (24 * x1)) + x3)) 6912) (cond (zi_ix x4 12) (if (g1 (zi_w ((zi_w (24 * x1)) + x3))) < (g2 x4) then (rec (zi_w (x3 + 1))) else (some x3)) none) none) else (some x3)) none
def zf_M_hasParts_l1 (x1 : Int) (x4 : Int) (g0 : (Int → Int)) (g1 : (Int → Int)) (g2 : (Int → Int)) : Nat → Int → Option (Int)
  | 0, _ => none
  | n + 1, x3 => zf_M_hasParts_l1_b x1 x4 g0 g1 g2 (zf_M_hasParts_l1 x1 x4 g0 g1 g2 n) x3
def zf_M_hasParts_l0_b (x1 : Int) (x2 : Int) (g0 : (Int → Int)) (g1 : (Int → Int)) (g2 : (Int → Int)) (rec : Int → Int → Option (((Unit) ⊕ (Int)))) (x3 : Int) (x4 : Int) : Option (((Unit) ⊕ (Int))) := if x4 < x2 then ((zf_M_hasParts_l1 x1 x4 g0 g1 g2 zi_fu x3).bind fun q7 => (cond (zi_ix x1 288) (if q7 = (g0 x1) then (some (.inr 0)) else (cond (zi_ix (zi_w ((zi_w (24 * x1)) + q7)) 6912) (cond (zi_ix x4 12) (if (g1 (zi_w ((zi_w (24 * x1)) + q7))) = (g2 x4) then (rec (zi_w (q7 + 1)) (zi_w (x4 + 1))) else (some (.inr 0))) none) none)) none)) else (some (.inl ()))
def zf_M_hasParts_l0 (x1 : Int) (x2 : Int) (g0 : (Int → Int)) (g1 : (Int → Int)) (g2 : (Int → Int)) : Nat → Int → Int → Option (((Unit) ⊕ (Int)))
  | 0, _, _ => none
  | n + 1, x3, x4 => zf_M_hasParts_l0_b x1 x2 g0 g1 g2 (zf_M_hasParts_l0 x1 x2 g0 g1 g2 n) x3 x4
def zf_M_hasParts (x1 : Int) (x2 : Int) (g0 : (Int → Int)) (g1 : (Int → Int)) (g2 : (Int → Int)) : Option (Int) := (zf_M_hasParts_l0 x1 x2 g0 g1 g2 zi_fu 0 0).bind fun q13 => Sum.elim (fun e14 => (some 1)) (fun w15 => some w15) q13
theorem zd282_0 : decode zxm282.2.1 0 = .ok (.iconst 0, 1) := by decide +kernel
theorem zd282_1 : decode zxm282.2.1 1 = .ok (.istore_n 3, 1) := by decide +kernel
theorem zd282_2 : decode zxm282.2.1 2 = .ok (.iconst 0, 1) := by decide +kernel
theorem zd282_3 : decode zxm282.2.1 3 = .ok (.istore 4, 2) := by decide +kernel
theorem zd282_5 : decode zxm282.2.1 5 = .ok (.iload 4, 2) := by decide +kernel
theorem zd282_7 : decode zxm282.2.1 7 = .ok (.iload_n 2, 1) := by decide +kernel
theorem zd282_8 : decode zxm282.2.1 8 = .ok (.if_icmp .ge 84, 3) := by decide +kernel
theorem zd282_11 : decode zxm282.2.1 11 = .ok (.iload_n 3, 1) := by decide +kernel
theorem zd282_12 : decode zxm282.2.1 12 = .ok (.aload_n 0, 1) := by decide +kernel
theorem zd282_13 : decode zxm282.2.1 13 = .ok (.getfield 89, 3) := by decide +kernel
theorem zd282_16 : decode zxm282.2.1 16 = .ok (.iload_n 1, 1) := by decide +kernel
theorem zd282_17 : decode zxm282.2.1 17 = .ok (.iaload, 1) := by decide +kernel
theorem zd282_18 : decode zxm282.2.1 18 = .ok (.if_icmp .ge 31, 3) := by decide +kernel
theorem zd282_21 : decode zxm282.2.1 21 = .ok (.aload_n 0, 1) := by decide +kernel
theorem zd282_22 : decode zxm282.2.1 22 = .ok (.getfield 86, 3) := by decide +kernel
theorem zd282_25 : decode zxm282.2.1 25 = .ok (.bipush 24, 2) := by decide +kernel
theorem zd282_27 : decode zxm282.2.1 27 = .ok (.iload_n 1, 1) := by decide +kernel
theorem zd282_28 : decode zxm282.2.1 28 = .ok (.imul, 1) := by decide +kernel
theorem zd282_29 : decode zxm282.2.1 29 = .ok (.iload_n 3, 1) := by decide +kernel
theorem zd282_30 : decode zxm282.2.1 30 = .ok (.iadd, 1) := by decide +kernel
theorem zd282_31 : decode zxm282.2.1 31 = .ok (.iaload, 1) := by decide +kernel
theorem zd282_32 : decode zxm282.2.1 32 = .ok (.aload_n 0, 1) := by decide +kernel
theorem zd282_33 : decode zxm282.2.1 33 = .ok (.getfield 95, 3) := by decide +kernel
theorem zd282_36 : decode zxm282.2.1 36 = .ok (.iload 4, 2) := by decide +kernel
theorem zd282_38 : decode zxm282.2.1 38 = .ok (.iaload, 1) := by decide +kernel
theorem zd282_39 : decode zxm282.2.1 39 = .ok (.if_icmp .ge 10, 3) := by decide +kernel
theorem zd282_42 : decode zxm282.2.1 42 = .ok (.iload_n 3, 1) := by decide +kernel
theorem zd282_43 : decode zxm282.2.1 43 = .ok (.iconst 1, 1) := by decide +kernel
theorem zd282_44 : decode zxm282.2.1 44 = .ok (.iadd, 1) := by decide +kernel
theorem zd282_45 : decode zxm282.2.1 45 = .ok (.istore_n 3, 1) := by decide +kernel
theorem zd282_46 : decode zxm282.2.1 46 = .ok (.goto (-35), 3) := by decide +kernel
theorem zd282_49 : decode zxm282.2.1 49 = .ok (.iload_n 3, 1) := by decide +kernel
theorem zd282_50 : decode zxm282.2.1 50 = .ok (.aload_n 0, 1) := by decide +kernel
theorem zd282_51 : decode zxm282.2.1 51 = .ok (.getfield 89, 3) := by decide +kernel
theorem zd282_54 : decode zxm282.2.1 54 = .ok (.iload_n 1, 1) := by decide +kernel
theorem zd282_55 : decode zxm282.2.1 55 = .ok (.iaload, 1) := by decide +kernel
theorem zd282_56 : decode zxm282.2.1 56 = .ok (.if_icmp .eq 24, 3) := by decide +kernel
theorem zd282_59 : decode zxm282.2.1 59 = .ok (.aload_n 0, 1) := by decide +kernel
theorem zd282_60 : decode zxm282.2.1 60 = .ok (.getfield 86, 3) := by decide +kernel
theorem zd282_63 : decode zxm282.2.1 63 = .ok (.bipush 24, 2) := by decide +kernel
theorem zd282_65 : decode zxm282.2.1 65 = .ok (.iload_n 1, 1) := by decide +kernel
theorem zd282_66 : decode zxm282.2.1 66 = .ok (.imul, 1) := by decide +kernel
theorem zd282_67 : decode zxm282.2.1 67 = .ok (.iload_n 3, 1) := by decide +kernel
theorem zd282_68 : decode zxm282.2.1 68 = .ok (.iadd, 1) := by decide +kernel
theorem zd282_69 : decode zxm282.2.1 69 = .ok (.iaload, 1) := by decide +kernel
theorem zd282_70 : decode zxm282.2.1 70 = .ok (.aload_n 0, 1) := by decide +kernel
theorem zd282_71 : decode zxm282.2.1 71 = .ok (.getfield 95, 3) := by decide +kernel
theorem zd282_74 : decode zxm282.2.1 74 = .ok (.iload 4, 2) := by decide +kernel
theorem zd282_76 : decode zxm282.2.1 76 = .ok (.iaload, 1) := by decide +kernel
theorem zd282_77 : decode zxm282.2.1 77 = .ok (.if_icmp .eq 5, 3) := by decide +kernel
theorem zd282_80 : decode zxm282.2.1 80 = .ok (.iconst 0, 1) := by decide +kernel
theorem zd282_81 : decode zxm282.2.1 81 = .ok (.ireturn, 1) := by decide +kernel
theorem zd282_82 : decode zxm282.2.1 82 = .ok (.iload_n 3, 1) := by decide +kernel
theorem zd282_83 : decode zxm282.2.1 83 = .ok (.iconst 1, 1) := by decide +kernel
theorem zd282_84 : decode zxm282.2.1 84 = .ok (.iadd, 1) := by decide +kernel
theorem zd282_85 : decode zxm282.2.1 85 = .ok (.istore_n 3, 1) := by decide +kernel
theorem zd282_86 : decode zxm282.2.1 86 = .ok (.iinc 4 1, 3) := by decide +kernel
theorem zd282_89 : decode zxm282.2.1 89 = .ok (.goto (-84), 3) := by decide +kernel
theorem zd282_92 : decode zxm282.2.1 92 = .ok (.iconst 1, 1) := by decide +kernel
theorem zd282_93 : decode zxm282.2.1 93 = .ok (.ireturn, 1) := by decide +kernel
theorem zt_M_hasParts {x1 : Int} {x2 : Int} {g0 : (Int → Int)} {g1 : (Int → Int)} {g2 : (Int → Int)} {o : Int} (h : zf_M_hasParts x1 x2 g0 g1 g2 = some o) : zv_Fn z_TB z_cl z_KX zy_M_hasParts zxm282 (0, 0) [.inr 0, .inl x1, .inl x2] [] [g0, g1, g2] (some o) [] [g0, g1, g2] := zv_meth (K := (z_KF13, z_KC13, z_KL13, z_KT13, [], [], [], none)) (FT := z_FT) (MT := z_MT) (n := 3) zxp282 (z_ks13 _ (fun _ h => List.mem_cons_of_mem _ h) _ _ _ _ (fun j r h _ => by cases h)) (fun _ _ => zs_KX_p) zyw_M_hasParts (fun va F G h => by obtain ⟨rfl, _⟩ := h; rfl) (fun va F G h => by obtain ⟨rfl, _⟩ := h; rfl) rfl fun good va F G hB hret hvret hP => by
  obtain ⟨rfl, rfl, rfl⟩ := hP
  have l1 : ∀ (n : Nat) (x1 : Int) (x2 : Int) (x3 : Int) (x4 : Int) (q : Int), zf_M_hasParts_l1 x1 x4 g0 g1 g2 n x3 = some q → (good 49 [.inr 0, .inl x1, .inl x2, .inl q, .inl x4] [] [] [g0, g1, g2]) → good 11 [.inr 0, .inl x1, .inl x2, .inl x3, .inl x4] [] [] [g0, g1, g2] := by
    intro n
    induction n with
    | zero => intro x1 x2 x3 x4 q h; exact absurd (show none = some q from h) (fun h => by cases h)
    | succ n ih =>
      intro x1 x2 x3 x4 q h hK
      replace h : zf_M_hasParts_l1_b x1 x4 g0 g1 g2 (zf_M_hasParts_l1 x1 x4 g0 g1 g2 n) x3 = some q := h
      unfold zf_M_hasParts_l1_b at h
      refine zv_ild hB zd282_11 rfl rfl ?_
      refine zv_ald hB zd282_12 rfl rfl rfl ?_
      refine zv_getr hB zd282_13 rfl ?_
      refine zv_ild hB zd282_16 rfl rfl ?_
      obtain ⟨c2, h⟩ := zi_if h
      refine zv_iald hB zd282_17 rfl rfl (zi_ix_ok c2).1 (zi_ix_ok c2).2 (fun _ _ => ?_)
      refine zv_cge hB zd282_18 rfl (fun hc3 => ?_) (fun hc3 => ?_)
      · rw [if_neg (Int.not_lt.mpr hc3)] at h
        have hq := Option.some.inj h
        subst hq
        exact hK
      · rw [if_pos hc3] at h
        refine zv_ald hB zd282_21 rfl rfl rfl ?_
        refine zv_getr hB zd282_22 rfl ?_
        refine zv_con hB zd282_25 rfl ?_
        refine zv_ild hB zd282_27 rfl rfl ?_
        refine zv_mulw hB zd282_28 ?_
        refine zv_ild hB zd282_29 rfl rfl ?_
        refine zv_addw hB zd282_30 ?_
        obtain ⟨c4, h⟩ := zi_if h
        refine zv_iald hB zd282_31 rfl rfl (zi_ix_ok c4).1 (zi_ix_ok c4).2 (fun _ _ => ?_)
        refine zv_ald hB zd282_32 rfl rfl rfl ?_
        refine zv_getr hB zd282_33 rfl ?_
        refine zv_ild hB zd282_36 rfl rfl ?_
        obtain ⟨c5, h⟩ := zi_if h
        refine zv_iald hB zd282_38 rfl rfl (zi_ix_ok c5).1 (zi_ix_ok c5).2 (fun _ _ => ?_)
        refine zv_cge hB zd282_39 rfl (fun hc6 => ?_) (fun hc6 => ?_)
        · rw [if_neg (Int.not_lt.mpr hc6)] at h
          have hq := Option.some.inj h
          subst hq
          exact hK
        · rw [if_pos hc6] at h
          refine zv_ild hB zd282_42 rfl rfl ?_
          refine zv_con hB zd282_43 rfl ?_
          refine zv_addw hB zd282_44 ?_
          refine zv_ist hB zd282_45 rfl rfl rfl ?_
          refine zv_goto hB zd282_46 rfl ?_
          exact ih _ _ _ _ q h hK
  have l0 : ∀ (n : Nat) (x1 : Int) (x2 : Int) (x3 : Int) (x4 : Int) (q : ((Unit) ⊕ (Int))), zf_M_hasParts_l0 x1 x2 g0 g1 g2 n x3 x4 = some q → (Sum.elim (fun e : Unit => good 92 [.inr 1000, .inr 1000, .inr 1000, .inr 1000, .inr 1000] [] [] [g0, g1, g2]) (fun w : Int => w = o) q) → good 5 [.inr 0, .inl x1, .inl x2, .inl x3, .inl x4] [] [] [g0, g1, g2] := by
    intro n
    induction n with
    | zero => intro x1 x2 x3 x4 q h; exact absurd (show none = some q from h) (fun h => by cases h)
    | succ n ih =>
      intro x1 x2 x3 x4 q h hK
      replace h : zf_M_hasParts_l0_b x1 x2 g0 g1 g2 (zf_M_hasParts_l0 x1 x2 g0 g1 g2 n) x3 x4 = some q := h
      unfold zf_M_hasParts_l0_b at h
      refine zv_ild hB zd282_5 rfl rfl ?_
      refine zv_ild hB zd282_7 rfl rfl ?_
      refine zv_cge hB zd282_8 rfl (fun hc1 => ?_) (fun hc1 => ?_)
      · rw [if_neg (Int.not_lt.mpr hc1)] at h
        have hq := Option.some.inj h
        subst hq
        refine zv_wk hB (L' := [.inr 1000, .inr 1000, .inr 1000, .inr 1000, .inr 1000]) (F' := []) ⟨fun (h : zv_is (.inr 1000)) => (Nat.lt_irrefl 1000 h).elim, fun (h : zv_is (.inr 1000)) => (Nat.lt_irrefl 1000 h).elim, fun (h : zv_is (.inr 1000)) => (Nat.lt_irrefl 1000 h).elim, fun (h : zv_is (.inr 1000)) => (Nat.lt_irrefl 1000 h).elim, fun (h : zv_is (.inr 1000)) => (Nat.lt_irrefl 1000 h).elim, trivial⟩ trivial ?_
        exact hK
      · rw [if_pos hc1] at h
        obtain ⟨q7, hq7, h⟩ := zi_bind h
        refine l1 _ _ _ _ _ q7 hq7 ?_
        show good 49 [.inr 0, .inl x1, .inl x2, .inl q7, .inl x4] [] [] [g0, g1, g2]
        refine zv_ild hB zd282_49 rfl rfl ?_
        refine zv_ald hB zd282_50 rfl rfl rfl ?_
        refine zv_getr hB zd282_51 rfl ?_
        refine zv_ild hB zd282_54 rfl rfl ?_
        obtain ⟨c8, h⟩ := zi_if h
        refine zv_iald hB zd282_55 rfl rfl (zi_ix_ok c8).1 (zi_ix_ok c8).2 (fun _ _ => ?_)
        refine zv_ceq hB zd282_56 rfl (fun hc9 => ?_) (fun hc9 => ?_)
        · rw [if_pos hc9] at h
          refine zv_con hB zd282_80 rfl ?_
          have hw : 0 = o := zi_rk (Option.some.inj h) hK
          subst hw
          exact hret _ _ _ _ _ zd282_81 (by constructor <;> decide) ⟨rfl, rfl, rfl⟩
        · rw [if_neg hc9] at h
          refine zv_ald hB zd282_59 rfl rfl rfl ?_
          refine zv_getr hB zd282_60 rfl ?_
          refine zv_con hB zd282_63 rfl ?_
          refine zv_ild hB zd282_65 rfl rfl ?_
          refine zv_mulw hB zd282_66 ?_
          refine zv_ild hB zd282_67 rfl rfl ?_
          refine zv_addw hB zd282_68 ?_
          obtain ⟨c10, h⟩ := zi_if h
          refine zv_iald hB zd282_69 rfl rfl (zi_ix_ok c10).1 (zi_ix_ok c10).2 (fun _ _ => ?_)
          refine zv_ald hB zd282_70 rfl rfl rfl ?_
          refine zv_getr hB zd282_71 rfl ?_
          refine zv_ild hB zd282_74 rfl rfl ?_
          obtain ⟨c11, h⟩ := zi_if h
          refine zv_iald hB zd282_76 rfl rfl (zi_ix_ok c11).1 (zi_ix_ok c11).2 (fun _ _ => ?_)
          refine zv_ceq hB zd282_77 rfl (fun hc12 => ?_) (fun hc12 => ?_)
          · rw [if_pos hc12] at h
            refine zv_ild hB zd282_82 rfl rfl ?_
            refine zv_con hB zd282_83 rfl ?_
            refine zv_addw hB zd282_84 ?_
            refine zv_ist hB zd282_85 rfl rfl rfl ?_
            refine zv_iincw hB zd282_86 rfl rfl ?_
            refine zv_goto hB zd282_89 rfl ?_
            exact ih _ _ _ _ q h hK
          · rw [if_neg hc12] at h
            refine zv_con hB zd282_80 rfl ?_
            have hw : 0 = o := zi_rk (Option.some.inj h) hK
            subst hw
            exact hret _ _ _ _ _ zd282_81 (by constructor <;> decide) ⟨rfl, rfl, rfl⟩
  unfold zf_M_hasParts at h
  refine zv_con hB zd282_0 rfl ?_
  refine zv_ist hB zd282_1 rfl rfl rfl ?_
  refine zv_con hB zd282_2 rfl ?_
  refine zv_ist hB zd282_3 rfl rfl rfl ?_
  obtain ⟨q13, hq13, h⟩ := zi_bind h
  refine l0 _ _ _ _ _ q13 hq13 ?_
  rcases q13 with e14 | w15
  · replace h := zi_sl h
    show good 92 [.inr 1000, .inr 1000, .inr 1000, .inr 1000, .inr 1000] [] [] [g0, g1, g2]
    refine zv_con hB zd282_92 rfl ?_
    have hw := Option.some.inj h
    subst hw
    exact hret _ _ _ _ _ zd282_93 (by constructor <;> decide) ⟨rfl, rfl, rfl⟩
  · exact Option.some.inj h
/-! M_known (II)I -/
-- names: 0 StarTalesModel('arg', 0), 1 (1, 220)(0, 12, 3), 2 (0, 12)(0, 12, 45), 3 (0, 422)(0, 12, 0), 4 (0, 14)(0, 12, 21), 5 (0, 13)(0, 12, 26), 6 (0, 14)(0, 12, 23), 7 (0, 14)(0, 12, 24), 8 (0, 220)(0, 12, 20), 9 (0, 220)(0, 12, 25), 10 (0, 24)(0, 12, 44), 11 (0, 288)(0, 12, 43), 12 (0, 6912)(0, 12, 42)
-- fields: f0 = 0.taped_, f1 = 0.clauses_; arrays: g0 = 1, g1 = 2, g2 = 3, g3 = 4, g4 = 5, g5 = 6, g6 = 7, g7 = 8, g8 = 9, g9 = 10, g10 = 11, g11 = 12; out: [('ret', None), ('f', 0), ('g', 1), ('g', 4), ('g', 8), ('g', 9), ('g', 10), ('g', 11)]
abbrev zy_M_known : zNL := (13, [(0, 12)], [(0, 12, 4, 0), (0, 12, 13, 1)], [(0, 12, 3, 1), (0, 12, 45, 2), (0, 12, 0, 3), (0, 12, 21, 4), (0, 12, 26, 5), (0, 12, 23, 6), (0, 12, 24, 7), (0, 12, 20, 8), (0, 12, 25, 9), (0, 12, 44, 10), (0, 12, 43, 11), (0, 12, 42, 12)], [(1, 1, 220, 0), (2, 0, 12, 1), (3, 0, 422, 2), (4, 0, 14, 3), (5, 0, 13, 4), (6, 0, 14, 5), (7, 0, 14, 6), (8, 0, 220, 7), (9, 0, 220, 8), (10, 0, 24, 9), (11, 0, 288, 10), (12, 0, 6912, 11)])
theorem zyw_M_known : zv_wf zy_M_known = true := by decide +kernel
theorem zye_M_known : zv_ek2 zy_M_known = true := by decide +kernel
def zf_M_known_l0_b (x1 : Int) (g0 : (Int → Int)) (rec : Int → (Int → Int) → Option ((Int → Int))) (x3 : Int) (g1 : (Int → Int)) : Option ((Int → Int)) := if x3 < x1 then (cond (zi_ix (zi_w (3 * x3)) 220) (cond (zi_ix (zi_w ((zi_w (3 * x3)) + 1)) 220) (cond (zi_ix (zi_w ((zi_w (3 * x3)) + 2)) 220) (if 24 < (zi_and (g0 (zi_w (3 * x3))) 255) then ((zf_M_puts_12 x3 1000000000 g1).bind fun r11 => (rec (zi_w (x3 + 1)) r11)) else (if 24 < (zi_and (g0 (zi_w ((zi_w (3 * x3)) + 1))) 255) then ((zf_M_puts_12 x3 1000000000 g1).bind fun r13 => (rec (zi_w (x3 + 1)) r13)) else (if 9 < (zi_and (g0 (zi_w ((zi_w (3 * x3)) + 2))) 255) then ((zf_M_puts_12 x3 1000000000 g1).bind fun r16 => (rec (zi_w (x3 + 1)) r16)) else ((zf_M_puts_12 x3 (zi_w ((zi_w ((zi_w (1000 * (zi_and (g0 (zi_w (3 * x3))) 255))) + (zi_w (10 * (zi_and (g0 (zi_w ((zi_w (3 * x3)) + 1))) 255))))) + (zi_and (g0 (zi_w ((zi_w (3 * x3)) + 2))) 255))) g1).bind fun r15 => (rec (zi_w (x3 + 1)) r15))))) none) none) none) else (some g1)
def zf_M_known_l0 (x1 : Int) (g0 : (Int → Int)) : Nat → Int → (Int → Int) → Option ((Int → Int))
  | 0, _, _ => none
  | n + 1, x3, g1 => zf_M_known_l0_b x1 g0 (zf_M_known_l0 x1 g0 n) x3 g1
def zf_M_known_l1_b (x1 : Int) (x2 : Int) (g1 : (Int → Int)) (g10 : (Int → Int)) (g11 : (Int → Int)) (rec : Int → Int → Int → Option (Int × Int)) (x3 : Int) (x4 : Int) (x5 : Int) : Option (Int × Int) := if x5 < 288 then ((zf_M_hasParts x5 x1 g10 g11 g1).bind fun r20 => (if r20 = 0 then (rec x3 x4 (zi_w (x5 + 1))) else (if 1 < x2 then (cond (zi_ix x5 288) (if (g10 x5) = x1 then (if x3 = 0 then (rec (zi_w (x3 + 1)) x5 (zi_w (x5 + 1))) else (rec (zi_w (x3 + 1)) x4 (zi_w (x5 + 1)))) else (rec x3 x4 (zi_w (x5 + 1)))) none) else (if x3 = 0 then (rec (zi_w (x3 + 1)) x5 (zi_w (x5 + 1))) else (rec (zi_w (x3 + 1)) x4 (zi_w (x5 + 1))))))) else (some (x3, x4))
def zf_M_known_l1 (x1 : Int) (x2 : Int) (g1 : (Int → Int)) (g10 : (Int → Int)) (g11 : (Int → Int)) : Nat → Int → Int → Int → Option (Int × Int)
  | 0, _, _, _ => none
  | n + 1, x3, x4, x5 => zf_M_known_l1_b x1 x2 g1 g10 g11 (zf_M_known_l1 x1 x2 g1 g10 g11 n) x3 x4 x5
def zf_M_known (x1 : Int) (x2 : Int) (f0 : Int) (f1 : Int) (g0 : (Int → Int)) (g1 : (Int → Int)) (g2 : (Int → Int)) (g3 : (Int → Int)) (g4 : (Int → Int)) (g5 : (Int → Int)) (g6 : (Int → Int)) (g7 : (Int → Int)) (g8 : (Int → Int)) (g9 : (Int → Int)) (g10 : (Int → Int)) (g11 : (Int → Int)) : Option (Int × Int × (Int → Int) × (Int → Int) × (Int → Int) × (Int → Int) × (Int → Int) × (Int → Int)) := (zf_M_in x1 1 12).bind fun r1 => (if r1 = 0 then (some ((-1), f0, g1, g4, g8, g9, g10, g11)) else ((zf_M_in x2 0 3).bind fun r3 => (if r3 = 0 then (some ((-1), f0, g1, g4, g8, g9, g10, g11)) else (if f0 < (zi_w (3 * x1)) then (some ((-1), f0, g1, g4, g8, g9, g10, g11)) else ((zf_M_known_l0 x1 g0 zi_fu 0 g1).bind fun q17 => ((zf_M_laysPatches f1 g2 g3 g4 g5 g6 g7 g8 g9 g10 g11).bind fun r18 => ((zf_M_known_l1 x1 x2 q17 r18.2.2.2.1 r18.2.2.2.2 zi_fu 0 (-2) 0).bind fun q27 => (if (zi_rem x2 2) = 0 then (some (q27.1, 0, q17, r18.1, r18.2.1, r18.2.2.1, r18.2.2.2.1, r18.2.2.2.2)) else (some (q27.2, 0, q17, r18.1, r18.2.1, r18.2.2.1, r18.2.2.2.1, r18.2.2.2.2))))))))))
theorem zd281_0 : decode zxm281.2.1 0 = .ok (.iload_n 1, 1) := by decide +kernel
theorem zd281_1 : decode zxm281.2.1 1 = .ok (.iconst 1, 1) := by decide +kernel
theorem zd281_2 : decode zxm281.2.1 2 = .ok (.bipush 12, 2) := by decide +kernel
theorem zd281_4 : decode zxm281.2.1 4 = .ok (.invokestatic 150, 3) := by decide +kernel
theorem zd281_7 : decode zxm281.2.1 7 = .ok (.ifCond .eq 22, 3) := by decide +kernel
theorem zd281_10 : decode zxm281.2.1 10 = .ok (.iload_n 2, 1) := by decide +kernel
theorem zd281_11 : decode zxm281.2.1 11 = .ok (.iconst 0, 1) := by decide +kernel
theorem zd281_12 : decode zxm281.2.1 12 = .ok (.iconst 3, 1) := by decide +kernel
theorem zd281_13 : decode zxm281.2.1 13 = .ok (.invokestatic 150, 3) := by decide +kernel
theorem zd281_16 : decode zxm281.2.1 16 = .ok (.ifCond .eq 13, 3) := by decide +kernel
theorem zd281_19 : decode zxm281.2.1 19 = .ok (.iconst 3, 1) := by decide +kernel
theorem zd281_20 : decode zxm281.2.1 20 = .ok (.iload_n 1, 1) := by decide +kernel
theorem zd281_21 : decode zxm281.2.1 21 = .ok (.imul, 1) := by decide +kernel
theorem zd281_22 : decode zxm281.2.1 22 = .ok (.aload_n 0, 1) := by decide +kernel
theorem zd281_23 : decode zxm281.2.1 23 = .ok (.getfield 168, 3) := by decide +kernel
theorem zd281_26 : decode zxm281.2.1 26 = .ok (.if_icmp .le 5, 3) := by decide +kernel
theorem zd281_29 : decode zxm281.2.1 29 = .ok (.iconst (-1), 1) := by decide +kernel
theorem zd281_30 : decode zxm281.2.1 30 = .ok (.ireturn, 1) := by decide +kernel
theorem zd281_31 : decode zxm281.2.1 31 = .ok (.aload_n 0, 1) := by decide +kernel
theorem zd281_32 : decode zxm281.2.1 32 = .ok (.iconst 0, 1) := by decide +kernel
theorem zd281_33 : decode zxm281.2.1 33 = .ok (.putfield 168, 3) := by decide +kernel
theorem zd281_36 : decode zxm281.2.1 36 = .ok (.iconst 0, 1) := by decide +kernel
theorem zd281_37 : decode zxm281.2.1 37 = .ok (.istore_n 3, 1) := by decide +kernel
theorem zd281_38 : decode zxm281.2.1 38 = .ok (.iload_n 3, 1) := by decide +kernel
theorem zd281_39 : decode zxm281.2.1 39 = .ok (.iload_n 1, 1) := by decide +kernel
theorem zd281_40 : decode zxm281.2.1 40 = .ok (.if_icmp .ge 105, 3) := by decide +kernel
theorem zd281_43 : decode zxm281.2.1 43 = .ok (.aload_n 0, 1) := by decide +kernel
theorem zd281_44 : decode zxm281.2.1 44 = .ok (.getfield 19, 3) := by decide +kernel
theorem zd281_47 : decode zxm281.2.1 47 = .ok (.iconst 3, 1) := by decide +kernel
theorem zd281_48 : decode zxm281.2.1 48 = .ok (.iload_n 3, 1) := by decide +kernel
theorem zd281_49 : decode zxm281.2.1 49 = .ok (.imul, 1) := by decide +kernel
theorem zd281_50 : decode zxm281.2.1 50 = .ok (.baload, 1) := by decide +kernel
theorem zd281_51 : decode zxm281.2.1 51 = .ok (.sipush 255, 3) := by decide +kernel
theorem zd281_54 : decode zxm281.2.1 54 = .ok (.iand, 1) := by decide +kernel
theorem zd281_55 : decode zxm281.2.1 55 = .ok (.istore 4, 2) := by decide +kernel
theorem zd281_57 : decode zxm281.2.1 57 = .ok (.aload_n 0, 1) := by decide +kernel
theorem zd281_58 : decode zxm281.2.1 58 = .ok (.getfield 19, 3) := by decide +kernel
theorem zd281_61 : decode zxm281.2.1 61 = .ok (.iconst 3, 1) := by decide +kernel
theorem zd281_62 : decode zxm281.2.1 62 = .ok (.iload_n 3, 1) := by decide +kernel
theorem zd281_63 : decode zxm281.2.1 63 = .ok (.imul, 1) := by decide +kernel
theorem zd281_64 : decode zxm281.2.1 64 = .ok (.iconst 1, 1) := by decide +kernel
theorem zd281_65 : decode zxm281.2.1 65 = .ok (.iadd, 1) := by decide +kernel
theorem zd281_66 : decode zxm281.2.1 66 = .ok (.baload, 1) := by decide +kernel
theorem zd281_67 : decode zxm281.2.1 67 = .ok (.sipush 255, 3) := by decide +kernel
theorem zd281_70 : decode zxm281.2.1 70 = .ok (.iand, 1) := by decide +kernel
theorem zd281_71 : decode zxm281.2.1 71 = .ok (.istore 5, 2) := by decide +kernel
theorem zd281_73 : decode zxm281.2.1 73 = .ok (.aload_n 0, 1) := by decide +kernel
theorem zd281_74 : decode zxm281.2.1 74 = .ok (.getfield 19, 3) := by decide +kernel
theorem zd281_77 : decode zxm281.2.1 77 = .ok (.iconst 3, 1) := by decide +kernel
theorem zd281_78 : decode zxm281.2.1 78 = .ok (.iload_n 3, 1) := by decide +kernel
theorem zd281_79 : decode zxm281.2.1 79 = .ok (.imul, 1) := by decide +kernel
theorem zd281_80 : decode zxm281.2.1 80 = .ok (.iconst 2, 1) := by decide +kernel
theorem zd281_81 : decode zxm281.2.1 81 = .ok (.iadd, 1) := by decide +kernel
theorem zd281_82 : decode zxm281.2.1 82 = .ok (.baload, 1) := by decide +kernel
theorem zd281_83 : decode zxm281.2.1 83 = .ok (.sipush 255, 3) := by decide +kernel
theorem zd281_86 : decode zxm281.2.1 86 = .ok (.iand, 1) := by decide +kernel
theorem zd281_87 : decode zxm281.2.1 87 = .ok (.istore 6, 2) := by decide +kernel
theorem zd281_89 : decode zxm281.2.1 89 = .ok (.aload_n 0, 1) := by decide +kernel
theorem zd281_90 : decode zxm281.2.1 90 = .ok (.getfield 95, 3) := by decide +kernel
theorem zd281_93 : decode zxm281.2.1 93 = .ok (.iload_n 3, 1) := by decide +kernel
theorem zd281_94 : decode zxm281.2.1 94 = .ok (.iload 4, 2) := by decide +kernel
theorem zd281_96 : decode zxm281.2.1 96 = .ok (.bipush 24, 2) := by decide +kernel
theorem zd281_98 : decode zxm281.2.1 98 = .ok (.if_icmp .gt 17, 3) := by decide +kernel
theorem zd281_101 : decode zxm281.2.1 101 = .ok (.iload 5, 2) := by decide +kernel
theorem zd281_103 : decode zxm281.2.1 103 = .ok (.bipush 24, 2) := by decide +kernel
theorem zd281_105 : decode zxm281.2.1 105 = .ok (.if_icmp .gt 10, 3) := by decide +kernel
theorem zd281_108 : decode zxm281.2.1 108 = .ok (.iload 6, 2) := by decide +kernel
theorem zd281_110 : decode zxm281.2.1 110 = .ok (.bipush 9, 2) := by decide +kernel
theorem zd281_112 : decode zxm281.2.1 112 = .ok (.if_icmp .le 9, 3) := by decide +kernel
theorem zd281_115 : decode zxm281.2.1 115 = .ok (.ldc_w 391, 3) := by decide +kernel
theorem zd281_118 : decode zxm281.2.1 118 = .ok (.goto 18, 3) := by decide +kernel
theorem zd281_121 : decode zxm281.2.1 121 = .ok (.sipush 1000, 3) := by decide +kernel
theorem zd281_124 : decode zxm281.2.1 124 = .ok (.iload 4, 2) := by decide +kernel
theorem zd281_126 : decode zxm281.2.1 126 = .ok (.imul, 1) := by decide +kernel
theorem zd281_127 : decode zxm281.2.1 127 = .ok (.bipush 10, 2) := by decide +kernel
theorem zd281_129 : decode zxm281.2.1 129 = .ok (.iload 5, 2) := by decide +kernel
theorem zd281_131 : decode zxm281.2.1 131 = .ok (.imul, 1) := by decide +kernel
theorem zd281_132 : decode zxm281.2.1 132 = .ok (.iadd, 1) := by decide +kernel
theorem zd281_133 : decode zxm281.2.1 133 = .ok (.iload 6, 2) := by decide +kernel
theorem zd281_135 : decode zxm281.2.1 135 = .ok (.iadd, 1) := by decide +kernel
theorem zd281_136 : decode zxm281.2.1 136 = .ok (.invokestatic 375, 3) := by decide +kernel
theorem zd281_139 : decode zxm281.2.1 139 = .ok (.iinc 3 1, 3) := by decide +kernel
theorem zd281_142 : decode zxm281.2.1 142 = .ok (.goto (-104), 3) := by decide +kernel
theorem zd281_145 : decode zxm281.2.1 145 = .ok (.aload_n 0, 1) := by decide +kernel
theorem zd281_146 : decode zxm281.2.1 146 = .ok (.invokevirtual 385, 3) := by decide +kernel
theorem zd281_149 : decode zxm281.2.1 149 = .ok (.iconst 0, 1) := by decide +kernel
theorem zd281_150 : decode zxm281.2.1 150 = .ok (.istore_n 3, 1) := by decide +kernel
theorem zd281_151 : decode zxm281.2.1 151 = .ok (.bipush (-2), 2) := by decide +kernel
theorem zd281_153 : decode zxm281.2.1 153 = .ok (.istore 4, 2) := by decide +kernel
theorem zd281_155 : decode zxm281.2.1 155 = .ok (.iconst 0, 1) := by decide +kernel
theorem zd281_156 : decode zxm281.2.1 156 = .ok (.istore 5, 2) := by decide +kernel
theorem zd281_158 : decode zxm281.2.1 158 = .ok (.iload 5, 2) := by decide +kernel
theorem zd281_160 : decode zxm281.2.1 160 = .ok (.sipush 288, 3) := by decide +kernel
theorem zd281_163 : decode zxm281.2.1 163 = .ok (.if_icmp .ge 55, 3) := by decide +kernel
theorem zd281_166 : decode zxm281.2.1 166 = .ok (.aload_n 0, 1) := by decide +kernel
theorem zd281_167 : decode zxm281.2.1 167 = .ok (.iload 5, 2) := by decide +kernel
theorem zd281_169 : decode zxm281.2.1 169 = .ok (.iload_n 1, 1) := by decide +kernel
theorem zd281_170 : decode zxm281.2.1 170 = .ok (.invokevirtual 392, 3) := by decide +kernel
theorem zd281_173 : decode zxm281.2.1 173 = .ok (.ifCond .eq 39, 3) := by decide +kernel
theorem zd281_176 : decode zxm281.2.1 176 = .ok (.iload_n 2, 1) := by decide +kernel
theorem zd281_177 : decode zxm281.2.1 177 = .ok (.iconst 1, 1) := by decide +kernel
theorem zd281_178 : decode zxm281.2.1 178 = .ok (.if_icmp .le 17, 3) := by decide +kernel
theorem zd281_181 : decode zxm281.2.1 181 = .ok (.aload_n 0, 1) := by decide +kernel
theorem zd281_182 : decode zxm281.2.1 182 = .ok (.getfield 89, 3) := by decide +kernel
theorem zd281_185 : decode zxm281.2.1 185 = .ok (.iload 5, 2) := by decide +kernel
theorem zd281_187 : decode zxm281.2.1 187 = .ok (.iaload, 1) := by decide +kernel
theorem zd281_188 : decode zxm281.2.1 188 = .ok (.iload_n 1, 1) := by decide +kernel
theorem zd281_189 : decode zxm281.2.1 189 = .ok (.if_icmp .eq 6, 3) := by decide +kernel
theorem zd281_192 : decode zxm281.2.1 192 = .ok (.goto 20, 3) := by decide +kernel
theorem zd281_195 : decode zxm281.2.1 195 = .ok (.iload_n 3, 1) := by decide +kernel
theorem zd281_196 : decode zxm281.2.1 196 = .ok (.ifCond .ne 8, 3) := by decide +kernel
theorem zd281_199 : decode zxm281.2.1 199 = .ok (.iload 5, 2) := by decide +kernel
theorem zd281_201 : decode zxm281.2.1 201 = .ok (.goto 5, 3) := by decide +kernel
theorem zd281_204 : decode zxm281.2.1 204 = .ok (.iload 4, 2) := by decide +kernel
theorem zd281_206 : decode zxm281.2.1 206 = .ok (.istore 4, 2) := by decide +kernel
theorem zd281_208 : decode zxm281.2.1 208 = .ok (.iload_n 3, 1) := by decide +kernel
theorem zd281_209 : decode zxm281.2.1 209 = .ok (.iconst 1, 1) := by decide +kernel
theorem zd281_210 : decode zxm281.2.1 210 = .ok (.iadd, 1) := by decide +kernel
theorem zd281_211 : decode zxm281.2.1 211 = .ok (.istore_n 3, 1) := by decide +kernel
theorem zd281_212 : decode zxm281.2.1 212 = .ok (.iinc 5 1, 3) := by decide +kernel
theorem zd281_215 : decode zxm281.2.1 215 = .ok (.goto (-57), 3) := by decide +kernel
theorem zd281_218 : decode zxm281.2.1 218 = .ok (.iload_n 2, 1) := by decide +kernel
theorem zd281_219 : decode zxm281.2.1 219 = .ok (.iconst 2, 1) := by decide +kernel
theorem zd281_220 : decode zxm281.2.1 220 = .ok (.irem, 1) := by decide +kernel
theorem zd281_221 : decode zxm281.2.1 221 = .ok (.ifCond .ne 7, 3) := by decide +kernel
theorem zd281_224 : decode zxm281.2.1 224 = .ok (.iload_n 3, 1) := by decide +kernel
theorem zd281_225 : decode zxm281.2.1 225 = .ok (.goto 5, 3) := by decide +kernel
theorem zd281_228 : decode zxm281.2.1 228 = .ok (.iload 4, 2) := by decide +kernel
theorem zd281_230 : decode zxm281.2.1 230 = .ok (.ireturn, 1) := by decide +kernel
theorem zt_M_known {x1 : Int} {x2 : Int} {f0 : Int} {f1 : Int} {g0 : (Int → Int)} {g1 : (Int → Int)} {g2 : (Int → Int)} {g3 : (Int → Int)} {g4 : (Int → Int)} {g5 : (Int → Int)} {g6 : (Int → Int)} {g7 : (Int → Int)} {g8 : (Int → Int)} {g9 : (Int → Int)} {g10 : (Int → Int)} {g11 : (Int → Int)} {o : Int × Int × (Int → Int) × (Int → Int) × (Int → Int) × (Int → Int) × (Int → Int) × (Int → Int)} (h : zf_M_known x1 x2 f0 f1 g0 g1 g2 g3 g4 g5 g6 g7 g8 g9 g10 g11 = some o) : zv_Fn z_TB z_cl z_KX zy_M_known zxm281 (7, 420) [.inr 0, .inl x1, .inl x2] [.inl f0, .inl f1] [g0, g1, g2, g3, g4, g5, g6, g7, g8, g9, g10, g11] (some o.1) [.inl o.2.1, .inl f1] [g0, o.2.2.1, g2, g3, o.2.2.2.1, g5, g6, g7, o.2.2.2.2.1, o.2.2.2.2.2.1, o.2.2.2.2.2.2.1, o.2.2.2.2.2.2.2] := zv_meth (K := (z_KF13, z_KC13, z_KL13, z_KT13, [], [], [], none)) (FT := z_FT) (MT := z_MT) (n := 3) zxp281 (z_ks13 _ (fun _ h => List.mem_cons_of_mem _ h) _ _ _ _ (fun j r h _ => by cases h)) (fun _ _ => zs_KX_p) zyw_M_known (fun va F G h => by obtain ⟨rfl, _⟩ := h; rfl) (fun va F G h => by obtain ⟨rfl, _⟩ := h; rfl) rfl fun good va F G hB hret hvret hP => by
  obtain ⟨rfl, rfl, rfl⟩ := hP
  have l0 : ∀ (n : Nat) (x1 : Int) (x2 : Int) (x3 : Int) (f0 : Int) (g1 : (Int → Int)) (g4 : (Int → Int)) (g8 : (Int → Int)) (g9 : (Int → Int)) (g10 : (Int → Int)) (g11 : (Int → Int)) (q : (Int → Int)), zf_M_known_l0 x1 g0 n x3 g1 = some q → (good 145 [.inr 0, .inl x1, .inl x2, .inr 1000, .inr 1000, .inr 1000, .inr 1000] [] [.inl f0, .inl f1] [g0, q, g2, g3, g4, g5, g6, g7, g8, g9, g10, g11]) → good 38 [.inr 0, .inl x1, .inl x2, .inl x3, .inr 1000, .inr 1000, .inr 1000] [] [.inl f0, .inl f1] [g0, g1, g2, g3, g4, g5, g6, g7, g8, g9, g10, g11] := by
    intro n
    induction n with
    | zero => intro x1 x2 x3 f0 g1 g4 g8 g9 g10 g11 q h; exact absurd (show none = some q from h) (fun h => by cases h)
    | succ n ih =>
      intro x1 x2 x3 f0 g1 g4 g8 g9 g10 g11 q h hK
      replace h : zf_M_known_l0_b x1 g0 (zf_M_known_l0 x1 g0 n) x3 g1 = some q := h
      unfold zf_M_known_l0_b at h
      refine zv_ild hB zd281_38 rfl rfl ?_
      refine zv_ild hB zd281_39 rfl rfl ?_
      refine zv_cge hB zd281_40 rfl (fun hc6 => ?_) (fun hc6 => ?_)
      · rw [if_neg (Int.not_lt.mpr hc6)] at h
        have hq := Option.some.inj h
        subst hq
        refine zv_wk hB (L' := [.inr 0, .inl x1, .inl x2, .inr 1000, .inr 1000, .inr 1000, .inr 1000]) (F' := [.inl f0, .inl f1]) ⟨fun _ => rfl, fun _ => rfl, fun _ => rfl, fun (h : zv_is (.inr 1000)) => (Nat.lt_irrefl 1000 h).elim, fun (h : zv_is (.inr 1000)) => (Nat.lt_irrefl 1000 h).elim, fun (h : zv_is (.inr 1000)) => (Nat.lt_irrefl 1000 h).elim, fun (h : zv_is (.inr 1000)) => (Nat.lt_irrefl 1000 h).elim, trivial⟩ ⟨fun _ => rfl, fun _ => rfl, trivial⟩ ?_
        exact hK
      · rw [if_pos hc6] at h
        refine zv_ald hB zd281_43 rfl rfl rfl ?_
        refine zv_getr hB zd281_44 rfl ?_
        refine zv_con hB zd281_47 rfl ?_
        refine zv_ild hB zd281_48 rfl rfl ?_
        refine zv_mulw hB zd281_49 ?_
        obtain ⟨c7, h⟩ := zi_if h
        refine zv_bald hB zd281_50 rfl rfl (zi_ix_ok c7).1 (zi_ix_ok c7).2 (fun _ _ => ?_)
        refine zv_con hB zd281_51 rfl ?_
        refine zv_andw hB zd281_54 ?_
        refine zv_ist hB zd281_55 rfl rfl rfl ?_
        refine zv_ald hB zd281_57 rfl rfl rfl ?_
        refine zv_getr hB zd281_58 rfl ?_
        refine zv_con hB zd281_61 rfl ?_
        refine zv_ild hB zd281_62 rfl rfl ?_
        refine zv_mulw hB zd281_63 ?_
        refine zv_con hB zd281_64 rfl ?_
        refine zv_addw hB zd281_65 ?_
        obtain ⟨c8, h⟩ := zi_if h
        refine zv_bald hB zd281_66 rfl rfl (zi_ix_ok c8).1 (zi_ix_ok c8).2 (fun _ _ => ?_)
        refine zv_con hB zd281_67 rfl ?_
        refine zv_andw hB zd281_70 ?_
        refine zv_ist hB zd281_71 rfl rfl rfl ?_
        refine zv_ald hB zd281_73 rfl rfl rfl ?_
        refine zv_getr hB zd281_74 rfl ?_
        refine zv_con hB zd281_77 rfl ?_
        refine zv_ild hB zd281_78 rfl rfl ?_
        refine zv_mulw hB zd281_79 ?_
        refine zv_con hB zd281_80 rfl ?_
        refine zv_addw hB zd281_81 ?_
        obtain ⟨c9, h⟩ := zi_if h
        refine zv_bald hB zd281_82 rfl rfl (zi_ix_ok c9).1 (zi_ix_ok c9).2 (fun _ _ => ?_)
        refine zv_con hB zd281_83 rfl ?_
        refine zv_andw hB zd281_86 ?_
        refine zv_ist hB zd281_87 rfl rfl rfl ?_
        refine zv_ald hB zd281_89 rfl rfl rfl ?_
        refine zv_getr hB zd281_90 rfl ?_
        refine zv_ild hB zd281_93 rfl rfl ?_
        refine zv_ild hB zd281_94 rfl rfl ?_
        refine zv_con hB zd281_96 rfl ?_
        refine zv_cgt hB zd281_98 rfl (fun hc10 => ?_) (fun hc10 => ?_)
        · rw [if_pos hc10] at h
          refine zv_con (n := 1000000000) hB zd281_115 (by decide +kernel) ?_
          refine zv_goto hB zd281_118 rfl ?_
          obtain ⟨r11, hr11, h⟩ := zi_bind h
          refine zv_cs hB (zv_emq (va2 := [.inr 2, .inl x3, .inl 1000000000]) (F := [.inl f0, .inl f1]) (F' := [.inl f0, .inl f1]) (G := [g0, g1, g2, g3, g4, g5, g6, g7, g8, g9, g10, g11]) (G' := [g0, r11, g2, g3, g4, g5, g6, g7, g8, g9, g10, g11]) (ρ := [2]) (φ := []) (ψ := [1]) [none, none] [none, some 0, none, none, none, none, none, none, none, none, none, none] zyw_M_puts_12 zyw_M_known zye_M_known (by decide +kernel) (zt_M_puts_12 hr11) trivial ⟨rfl, trivial⟩ rfl rfl rfl rfl rfl rfl rfl) zd281_136 zxt278 rfl (by decide) (by decide) rfl ?_
          refine zv_iincw hB zd281_139 rfl rfl ?_
          refine zv_goto hB zd281_142 rfl ?_
          refine zv_wk hB (L' := [.inr 0, .inl x1, .inl x2, .inl (zi_w (x3 + 1)), .inr 1000, .inr 1000, .inr 1000]) (F' := [.inl f0, .inl f1]) ⟨fun _ => rfl, fun _ => rfl, fun _ => rfl, fun _ => rfl, fun (h : zv_is (.inr 1000)) => (Nat.lt_irrefl 1000 h).elim, fun (h : zv_is (.inr 1000)) => (Nat.lt_irrefl 1000 h).elim, fun (h : zv_is (.inr 1000)) => (Nat.lt_irrefl 1000 h).elim, trivial⟩ ⟨fun _ => rfl, fun _ => rfl, trivial⟩ ?_
          exact ih _ _ _ _ _ _ _ _ _ _ q h hK
        · rw [if_neg (Int.not_lt.mpr hc10)] at h
          refine zv_ild hB zd281_101 rfl rfl ?_
          refine zv_con hB zd281_103 rfl ?_
          refine zv_cgt hB zd281_105 rfl (fun hc12 => ?_) (fun hc12 => ?_)
          · rw [if_pos hc12] at h
            refine zv_con (n := 1000000000) hB zd281_115 (by decide +kernel) ?_
            refine zv_goto hB zd281_118 rfl ?_
            obtain ⟨r13, hr13, h⟩ := zi_bind h
            refine zv_cs hB (zv_emq (va2 := [.inr 2, .inl x3, .inl 1000000000]) (F := [.inl f0, .inl f1]) (F' := [.inl f0, .inl f1]) (G := [g0, g1, g2, g3, g4, g5, g6, g7, g8, g9, g10, g11]) (G' := [g0, r13, g2, g3, g4, g5, g6, g7, g8, g9, g10, g11]) (ρ := [2]) (φ := []) (ψ := [1]) [none, none] [none, some 0, none, none, none, none, none, none, none, none, none, none] zyw_M_puts_12 zyw_M_known zye_M_known (by decide +kernel) (zt_M_puts_12 hr13) trivial ⟨rfl, trivial⟩ rfl rfl rfl rfl rfl rfl rfl) zd281_136 zxt278 rfl (by decide) (by decide) rfl ?_
            refine zv_iincw hB zd281_139 rfl rfl ?_
            refine zv_goto hB zd281_142 rfl ?_
            refine zv_wk hB (L' := [.inr 0, .inl x1, .inl x2, .inl (zi_w (x3 + 1)), .inr 1000, .inr 1000, .inr 1000]) (F' := [.inl f0, .inl f1]) ⟨fun _ => rfl, fun _ => rfl, fun _ => rfl, fun _ => rfl, fun (h : zv_is (.inr 1000)) => (Nat.lt_irrefl 1000 h).elim, fun (h : zv_is (.inr 1000)) => (Nat.lt_irrefl 1000 h).elim, fun (h : zv_is (.inr 1000)) => (Nat.lt_irrefl 1000 h).elim, trivial⟩ ⟨fun _ => rfl, fun _ => rfl, trivial⟩ ?_
            exact ih _ _ _ _ _ _ _ _ _ _ q h hK
          · rw [if_neg (Int.not_lt.mpr hc12)] at h
            refine zv_ild hB zd281_108 rfl rfl ?_
            refine zv_con hB zd281_110 rfl ?_
            refine zv_cle hB zd281_112 rfl (fun hc14 => ?_) (fun hc14 => ?_)
            · rw [if_neg (Int.not_lt.mpr hc14)] at h
              refine zv_con hB zd281_121 rfl ?_
              refine zv_ild hB zd281_124 rfl rfl ?_
              refine zv_mulw hB zd281_126 ?_
              refine zv_con hB zd281_127 rfl ?_
              refine zv_ild hB zd281_129 rfl rfl ?_
              refine zv_mulw hB zd281_131 ?_
              refine zv_addw hB zd281_132 ?_
              refine zv_ild hB zd281_133 rfl rfl ?_
              refine zv_addw hB zd281_135 ?_
              obtain ⟨r15, hr15, h⟩ := zi_bind h
              refine zv_cs hB (zv_emq (va2 := [.inr 2, .inl x3, .inl (zi_w ((zi_w ((zi_w (1000 * (zi_and (g0 (zi_w (3 * x3))) 255))) + (zi_w (10 * (zi_and (g0 (zi_w ((zi_w (3 * x3)) + 1))) 255))))) + (zi_and (g0 (zi_w ((zi_w (3 * x3)) + 2))) 255)))]) (F := [.inl f0, .inl f1]) (F' := [.inl f0, .inl f1]) (G := [g0, g1, g2, g3, g4, g5, g6, g7, g8, g9, g10, g11]) (G' := [g0, r15, g2, g3, g4, g5, g6, g7, g8, g9, g10, g11]) (ρ := [2]) (φ := []) (ψ := [1]) [none, none] [none, some 0, none, none, none, none, none, none, none, none, none, none] zyw_M_puts_12 zyw_M_known zye_M_known (by decide +kernel) (zt_M_puts_12 hr15) trivial ⟨rfl, trivial⟩ rfl rfl rfl rfl rfl rfl rfl) zd281_136 zxt278 rfl (by decide) (by decide) rfl ?_
              refine zv_iincw hB zd281_139 rfl rfl ?_
              refine zv_goto hB zd281_142 rfl ?_
              refine zv_wk hB (L' := [.inr 0, .inl x1, .inl x2, .inl (zi_w (x3 + 1)), .inr 1000, .inr 1000, .inr 1000]) (F' := [.inl f0, .inl f1]) ⟨fun _ => rfl, fun _ => rfl, fun _ => rfl, fun _ => rfl, fun (h : zv_is (.inr 1000)) => (Nat.lt_irrefl 1000 h).elim, fun (h : zv_is (.inr 1000)) => (Nat.lt_irrefl 1000 h).elim, fun (h : zv_is (.inr 1000)) => (Nat.lt_irrefl 1000 h).elim, trivial⟩ ⟨fun _ => rfl, fun _ => rfl, trivial⟩ ?_
              exact ih _ _ _ _ _ _ _ _ _ _ q h hK
            · rw [if_pos hc14] at h
              refine zv_con (n := 1000000000) hB zd281_115 (by decide +kernel) ?_
              refine zv_goto hB zd281_118 rfl ?_
              obtain ⟨r16, hr16, h⟩ := zi_bind h
              refine zv_cs hB (zv_emq (va2 := [.inr 2, .inl x3, .inl 1000000000]) (F := [.inl f0, .inl f1]) (F' := [.inl f0, .inl f1]) (G := [g0, g1, g2, g3, g4, g5, g6, g7, g8, g9, g10, g11]) (G' := [g0, r16, g2, g3, g4, g5, g6, g7, g8, g9, g10, g11]) (ρ := [2]) (φ := []) (ψ := [1]) [none, none] [none, some 0, none, none, none, none, none, none, none, none, none, none] zyw_M_puts_12 zyw_M_known zye_M_known (by decide +kernel) (zt_M_puts_12 hr16) trivial ⟨rfl, trivial⟩ rfl rfl rfl rfl rfl rfl rfl) zd281_136 zxt278 rfl (by decide) (by decide) rfl ?_
              refine zv_iincw hB zd281_139 rfl rfl ?_
              refine zv_goto hB zd281_142 rfl ?_
              refine zv_wk hB (L' := [.inr 0, .inl x1, .inl x2, .inl (zi_w (x3 + 1)), .inr 1000, .inr 1000, .inr 1000]) (F' := [.inl f0, .inl f1]) ⟨fun _ => rfl, fun _ => rfl, fun _ => rfl, fun _ => rfl, fun (h : zv_is (.inr 1000)) => (Nat.lt_irrefl 1000 h).elim, fun (h : zv_is (.inr 1000)) => (Nat.lt_irrefl 1000 h).elim, fun (h : zv_is (.inr 1000)) => (Nat.lt_irrefl 1000 h).elim, trivial⟩ ⟨fun _ => rfl, fun _ => rfl, trivial⟩ ?_
              exact ih _ _ _ _ _ _ _ _ _ _ q h hK
  have l1 : ∀ (n : Nat) (x1 : Int) (x2 : Int) (x3 : Int) (x4 : Int) (x5 : Int) (f0 : Int) (g1 : (Int → Int)) (g4 : (Int → Int)) (g8 : (Int → Int)) (g9 : (Int → Int)) (g10 : (Int → Int)) (g11 : (Int → Int)) (q : Int × Int), zf_M_known_l1 x1 x2 g1 g10 g11 n x3 x4 x5 = some q → (good 218 [.inr 1000, .inr 1000, .inl x2, .inl q.1, .inl q.2, .inr 1000, .inr 1000] [] [.inl f0, .inl f1] [g0, g1, g2, g3, g4, g5, g6, g7, g8, g9, g10, g11]) → good 158 [.inr 0, .inl x1, .inl x2, .inl x3, .inl x4, .inl x5, .inr 1000] [] [.inl f0, .inl f1] [g0, g1, g2, g3, g4, g5, g6, g7, g8, g9, g10, g11] := by
    intro n
    induction n with
    | zero => intro x1 x2 x3 x4 x5 f0 g1 g4 g8 g9 g10 g11 q h; exact absurd (show none = some q from h) (fun h => by cases h)
    | succ n ih =>
      intro x1 x2 x3 x4 x5 f0 g1 g4 g8 g9 g10 g11 q h hK
      replace h : zf_M_known_l1_b x1 x2 g1 g10 g11 (zf_M_known_l1 x1 x2 g1 g10 g11 n) x3 x4 x5 = some q := h
      unfold zf_M_known_l1_b at h
      refine zv_ild hB zd281_158 rfl rfl ?_
      refine zv_con hB zd281_160 rfl ?_
      refine zv_cge hB zd281_163 rfl (fun hc19 => ?_) (fun hc19 => ?_)
      · rw [if_neg (Int.not_lt.mpr hc19)] at h
        have hq := Option.some.inj h
        subst hq
        refine zv_wk hB (L' := [.inr 1000, .inr 1000, .inl x2, .inl x3, .inl x4, .inr 1000, .inr 1000]) (F' := [.inl f0, .inl f1]) ⟨fun (h : zv_is (.inr 1000)) => (Nat.lt_irrefl 1000 h).elim, fun (h : zv_is (.inr 1000)) => (Nat.lt_irrefl 1000 h).elim, fun _ => rfl, fun _ => rfl, fun _ => rfl, fun (h : zv_is (.inr 1000)) => (Nat.lt_irrefl 1000 h).elim, fun (h : zv_is (.inr 1000)) => (Nat.lt_irrefl 1000 h).elim, trivial⟩ ⟨fun _ => rfl, fun _ => rfl, trivial⟩ ?_
        exact hK
      · rw [if_pos hc19] at h
        refine zv_ald hB zd281_166 rfl rfl rfl ?_
        refine zv_ild hB zd281_167 rfl rfl ?_
        refine zv_ild hB zd281_169 rfl rfl ?_
        obtain ⟨r20, hr20, h⟩ := zi_bind h
        refine zv_cv hB (zv_emq (va2 := [.inr 0, .inl x5, .inl x1]) (F := [.inl f0, .inl f1]) (F' := [.inl f0, .inl f1]) (G := [g0, g1, g2, g3, g4, g5, g6, g7, g8, g9, g10, g11]) (G' := [g0, g1, g2, g3, g4, g5, g6, g7, g8, g9, g10, g11]) (ρ := [0, 11, 12, 2]) (φ := []) (ψ := [10, 11, 1]) [none, none] [none, some 2, none, none, none, none, none, none, none, none, some 0, some 1] zyw_M_hasParts zyw_M_known zye_M_known (by decide +kernel) (zt_M_hasParts hr20) trivial ⟨rfl, rfl, rfl, trivial⟩ rfl rfl rfl rfl rfl rfl rfl) zd281_170 zxt282 rfl (by decide) (by decide) rfl ?_
        refine zv_zeq hB zd281_173 rfl (fun hc21 => ?_) (fun hc21 => ?_)
        · rw [if_pos hc21] at h
          refine zv_iincw hB zd281_212 rfl rfl ?_
          refine zv_goto hB zd281_215 rfl ?_
          exact ih _ _ _ _ _ _ _ _ _ _ _ _ q h hK
        · rw [if_neg hc21] at h
          refine zv_ild hB zd281_176 rfl rfl ?_
          refine zv_con hB zd281_177 rfl ?_
          refine zv_cle hB zd281_178 rfl (fun hc22 => ?_) (fun hc22 => ?_)
          · rw [if_neg (Int.not_lt.mpr hc22)] at h
            refine zv_ild hB zd281_195 rfl rfl ?_
            refine zv_zne hB zd281_196 rfl (fun hc23 => ?_) (fun hc23 => ?_)
            · rw [if_neg hc23] at h
              refine zv_ild hB zd281_204 rfl rfl ?_
              refine zv_ist hB zd281_206 rfl rfl rfl ?_
              refine zv_ild hB zd281_208 rfl rfl ?_
              refine zv_con hB zd281_209 rfl ?_
              refine zv_addw hB zd281_210 ?_
              refine zv_ist hB zd281_211 rfl rfl rfl ?_
              refine zv_iincw hB zd281_212 rfl rfl ?_
              refine zv_goto hB zd281_215 rfl ?_
              exact ih _ _ _ _ _ _ _ _ _ _ _ _ q h hK
            · rw [if_pos hc23] at h
              refine zv_ild hB zd281_199 rfl rfl ?_
              refine zv_goto hB zd281_201 rfl ?_
              refine zv_ist hB zd281_206 rfl rfl rfl ?_
              refine zv_ild hB zd281_208 rfl rfl ?_
              refine zv_con hB zd281_209 rfl ?_
              refine zv_addw hB zd281_210 ?_
              refine zv_ist hB zd281_211 rfl rfl rfl ?_
              refine zv_iincw hB zd281_212 rfl rfl ?_
              refine zv_goto hB zd281_215 rfl ?_
              exact ih _ _ _ _ _ _ _ _ _ _ _ _ q h hK
          · rw [if_pos hc22] at h
            refine zv_ald hB zd281_181 rfl rfl rfl ?_
            refine zv_getr hB zd281_182 rfl ?_
            refine zv_ild hB zd281_185 rfl rfl ?_
            obtain ⟨c24, h⟩ := zi_if h
            refine zv_iald hB zd281_187 rfl rfl (zi_ix_ok c24).1 (zi_ix_ok c24).2 (fun _ _ => ?_)
            refine zv_ild hB zd281_188 rfl rfl ?_
            refine zv_ceq hB zd281_189 rfl (fun hc25 => ?_) (fun hc25 => ?_)
            · rw [if_pos hc25] at h
              refine zv_ild hB zd281_195 rfl rfl ?_
              refine zv_zne hB zd281_196 rfl (fun hc26 => ?_) (fun hc26 => ?_)
              · rw [if_neg hc26] at h
                refine zv_ild hB zd281_204 rfl rfl ?_
                refine zv_ist hB zd281_206 rfl rfl rfl ?_
                refine zv_ild hB zd281_208 rfl rfl ?_
                refine zv_con hB zd281_209 rfl ?_
                refine zv_addw hB zd281_210 ?_
                refine zv_ist hB zd281_211 rfl rfl rfl ?_
                refine zv_iincw hB zd281_212 rfl rfl ?_
                refine zv_goto hB zd281_215 rfl ?_
                exact ih _ _ _ _ _ _ _ _ _ _ _ _ q h hK
              · rw [if_pos hc26] at h
                refine zv_ild hB zd281_199 rfl rfl ?_
                refine zv_goto hB zd281_201 rfl ?_
                refine zv_ist hB zd281_206 rfl rfl rfl ?_
                refine zv_ild hB zd281_208 rfl rfl ?_
                refine zv_con hB zd281_209 rfl ?_
                refine zv_addw hB zd281_210 ?_
                refine zv_ist hB zd281_211 rfl rfl rfl ?_
                refine zv_iincw hB zd281_212 rfl rfl ?_
                refine zv_goto hB zd281_215 rfl ?_
                exact ih _ _ _ _ _ _ _ _ _ _ _ _ q h hK
            · rw [if_neg hc25] at h
              refine zv_goto hB zd281_192 rfl ?_
              refine zv_iincw hB zd281_212 rfl rfl ?_
              refine zv_goto hB zd281_215 rfl ?_
              exact ih _ _ _ _ _ _ _ _ _ _ _ _ q h hK
  unfold zf_M_known at h
  refine zv_ild hB zd281_0 rfl rfl ?_
  refine zv_con hB zd281_1 rfl ?_
  refine zv_con hB zd281_2 rfl ?_
  obtain ⟨r1, hr1, h⟩ := zi_bind h
  refine zv_cs hB (zv_emq (va2 := [.inl x1, .inl 1, .inl 12]) (F := [.inl f0, .inl f1]) (F' := [.inl f0, .inl f1]) (G := [g0, g1, g2, g3, g4, g5, g6, g7, g8, g9, g10, g11]) (G' := [g0, g1, g2, g3, g4, g5, g6, g7, g8, g9, g10, g11]) (ρ := []) (φ := []) (ψ := []) [none, none] [none, none, none, none, none, none, none, none, none, none, none, none] zyw_M_in zyw_M_known zye_M_known (by decide +kernel) (zt_M_in hr1) trivial trivial rfl rfl rfl rfl rfl rfl rfl) zd281_4 zxt200 rfl (by decide) (by decide) rfl ?_
  refine zv_zeq hB zd281_7 rfl (fun hc2 => ?_) (fun hc2 => ?_)
  · rw [if_pos hc2] at h
    refine zv_con hB zd281_29 rfl ?_
    have hw := Option.some.inj h
    subst hw
    exact hret _ _ _ _ _ zd281_30 (by trivial) ⟨rfl, rfl, rfl⟩
  · rw [if_neg hc2] at h
    refine zv_ild hB zd281_10 rfl rfl ?_
    refine zv_con hB zd281_11 rfl ?_
    refine zv_con hB zd281_12 rfl ?_
    obtain ⟨r3, hr3, h⟩ := zi_bind h
    refine zv_cs hB (zv_emq (va2 := [.inl x2, .inl 0, .inl 3]) (F := [.inl f0, .inl f1]) (F' := [.inl f0, .inl f1]) (G := [g0, g1, g2, g3, g4, g5, g6, g7, g8, g9, g10, g11]) (G' := [g0, g1, g2, g3, g4, g5, g6, g7, g8, g9, g10, g11]) (ρ := []) (φ := []) (ψ := []) [none, none] [none, none, none, none, none, none, none, none, none, none, none, none] zyw_M_in zyw_M_known zye_M_known (by decide +kernel) (zt_M_in hr3) trivial trivial rfl rfl rfl rfl rfl rfl rfl) zd281_13 zxt200 rfl (by decide) (by decide) rfl ?_
    refine zv_zeq hB zd281_16 rfl (fun hc4 => ?_) (fun hc4 => ?_)
    · rw [if_pos hc4] at h
      refine zv_con hB zd281_29 rfl ?_
      have hw := Option.some.inj h
      subst hw
      exact hret _ _ _ _ _ zd281_30 (by trivial) ⟨rfl, rfl, rfl⟩
    · rw [if_neg hc4] at h
      refine zv_con hB zd281_19 rfl ?_
      refine zv_ild hB zd281_20 rfl rfl ?_
      refine zv_mulw hB zd281_21 ?_
      refine zv_ald hB zd281_22 rfl rfl rfl ?_
      refine zv_getf hB zd281_23 rfl rfl (fun _ _ => ?_)
      refine zv_cle hB zd281_26 rfl (fun hc5 => ?_) (fun hc5 => ?_)
      · rw [if_neg (Int.not_lt.mpr hc5)] at h
        refine zv_ald hB zd281_31 rfl rfl rfl ?_
        refine zv_con hB zd281_32 rfl ?_
        refine zv_putf hB zd281_33 rfl rfl (fun h => by cases h) rfl ?_
        refine zv_con hB zd281_36 rfl ?_
        refine zv_ist hB zd281_37 rfl rfl rfl ?_
        obtain ⟨q17, hq17, h⟩ := zi_bind h
        refine l0 _ _ _ _ _ _ _ _ _ _ _ q17 hq17 ?_
        show good 145 [.inr 0, .inl x1, .inl x2, .inr 1000, .inr 1000, .inr 1000, .inr 1000] [] [.inl 0, .inl f1] [g0, q17, g2, g3, g4, g5, g6, g7, g8, g9, g10, g11]
        refine zv_ald hB zd281_145 rfl rfl rfl ?_
        obtain ⟨r18, hr18, h⟩ := zi_bind h
        refine zv_cv hB (zv_emq (va2 := [.inr 0]) (F := [.inl 0, .inl f1]) (F' := [.inl 0, .inl f1]) (G := [g0, q17, g2, g3, g4, g5, g6, g7, g8, g9, g10, g11]) (G' := [g0, q17, g2, g3, r18.1, g5, g6, g7, r18.2.1, r18.2.2.1, r18.2.2.2.1, r18.2.2.2.2]) (ρ := [0, 3, 4, 5, 6, 7, 8, 9, 10, 11, 12]) (φ := [1]) (ψ := [2, 3, 4, 5, 6, 7, 8, 9, 10, 11]) [none, some 0] [none, none, some 0, some 1, some 2, some 3, some 4, some 5, some 6, some 7, some 8, some 9] zyw_M_laysPatches zyw_M_known zye_M_known (by decide +kernel) (zt_M_laysPatches hr18) ⟨⟨_, rfl, fun _ => rfl⟩, trivial⟩ ⟨rfl, rfl, rfl, rfl, rfl, rfl, rfl, rfl, rfl, rfl, trivial⟩ rfl rfl rfl rfl rfl rfl rfl) zd281_146 zxt275 rfl (by decide) (by decide) rfl ?_
        refine zv_con hB zd281_149 rfl ?_
        refine zv_ist hB zd281_150 rfl rfl rfl ?_
        refine zv_con hB zd281_151 rfl ?_
        refine zv_ist hB zd281_153 rfl rfl rfl ?_
        refine zv_con hB zd281_155 rfl ?_
        refine zv_ist hB zd281_156 rfl rfl rfl ?_
        obtain ⟨q27, hq27, h⟩ := zi_bind h
        refine l1 _ _ _ _ _ _ _ _ _ _ _ _ _ q27 hq27 ?_
        show good 218 [.inr 1000, .inr 1000, .inl x2, .inl q27.1, .inl q27.2, .inr 1000, .inr 1000] [] [.inl 0, .inl f1] [g0, q17, g2, g3, r18.1, g5, g6, g7, r18.2.1, r18.2.2.1, r18.2.2.2.1, r18.2.2.2.2]
        refine zv_ild hB zd281_218 rfl rfl ?_
        refine zv_con hB zd281_219 rfl ?_
        refine zv_remw hB zd281_220 (by decide) ?_
        refine zv_zne hB zd281_221 rfl (fun hc28 => ?_) (fun hc28 => ?_)
        · rw [if_neg hc28] at h
          refine zv_ild hB zd281_228 rfl rfl ?_
          have hw := Option.some.inj h
          subst hw
          exact hret _ _ _ _ _ zd281_230 (by trivial) ⟨rfl, rfl, rfl⟩
        · rw [if_pos hc28] at h
          refine zv_ild hB zd281_224 rfl rfl ?_
          refine zv_goto hB zd281_225 rfl ?_
          have hw := Option.some.inj h
          subst hw
          exact hret _ _ _ _ _ zd281_230 (by trivial) ⟨rfl, rfl, rfl⟩
      · rw [if_pos hc5] at h
        refine zv_con hB zd281_29 rfl ?_
        have hw := Option.some.inj h
        subst hw
        exact hret _ _ _ _ _ zd281_30 (by trivial) ⟨rfl, rfl, rfl⟩
/-! M_takesPlaces (I)Z -/
-- names: 0 StarTalesModel('arg', 0), 1 (1, 220)(0, 12, 3), 2 (0, 8)(0, 12, 46)
-- fields: ; arrays: g0 = 1, g1 = 2; out: [('ret', None), ('g', 1)]
abbrev zy_M_takesPlaces : zNL := (3, [(0, 12)], [], [(0, 12, 3, 1), (0, 12, 46, 2)], [(1, 1, 220, 0), (2, 0, 8, 1)])
theorem zyw_M_takesPlaces : zv_wf zy_M_takesPlaces = true := by decide +kernel
theorem zye_M_takesPlaces : zv_ek2 zy_M_takesPlaces = true := by decide +kernel
def zf_M_takesPlaces_l1_b (x2 : Int) (g1 : (Int → Int)) (rec : Int → Option (((Unit) ⊕ (Int × (Int → Int))))) (x5 : Int) : Option (((Unit) ⊕ (Int × (Int → Int)))) := if x5 < x2 then (cond (zi_ix x5 8) (cond (zi_ix x2 8) (if (g1 x5) = (g1 x2) then (some (.inr (0, g1))) else (rec (zi_w (x5 + 1)))) none) none) else (some (.inl ()))
def zf_M_takesPlaces_l1 (x2 : Int) (g1 : (Int → Int)) : Nat → Int → Option (((Unit) ⊕ (Int × (Int → Int))))
  | 0, _ => none
  | n + 1, x5 => zf_M_takesPlaces_l1_b x2 g1 (zf_M_takesPlaces_l1 x2 g1 n) x5
def zf_M_takesPlaces_l0_b (x1 : Int) (g0 : (Int → Int)) (rec : Int → (Int → Int) → Option ((((Int → Int)) ⊕ (Int × (Int → Int))))) (x2 : Int) (g1 : (Int → Int)) : Option ((((Int → Int)) ⊕ (Int × (Int → Int)))) := if x2 < x1 then (cond (zi_ix (zi_w (2 * x2)) 220) (cond (zi_ix (zi_w ((zi_w (2 * x2)) + 1)) 220) ((zf_M_isPlace (zi_and (g0 (zi_w (2 * x2))) 255) (zi_and (g0 (zi_w ((zi_w (2 * x2)) + 1))) 255)).bind fun r4 => (if r4 = 0 then (some (.inr (0, g1))) else (cond (zi_ix x2 8) ((zf_M_takesPlaces_l1 x2 (zv_up g1 x2 (zi_w ((zi_w (24 * (zi_and (g0 (zi_w ((zi_w (2 * x2)) + 1))) 255))) + (zi_and (g0 (zi_w (2 * x2))) 255)))) zi_fu 0).bind fun q11 => Sum.elim (fun e12 => (rec (zi_w (x2 + 1)) (zv_up g1 x2 (zi_w ((zi_w (24 * (zi_and (g0 (zi_w ((zi_w (2 * x2)) + 1))) 255))) + (zi_and (g0 (zi_w (2 * x2))) 255)))))) (fun w13 => some (.inr w13)) q11) none))) none) none) else (some (.inl g1))
def zf_M_takesPlaces_l0 (x1 : Int) (g0 : (Int → Int)) : Nat → Int → (Int → Int) → Option ((((Int → Int)) ⊕ (Int × (Int → Int))))
  | 0, _, _ => none
  | n + 1, x2, g1 => zf_M_takesPlaces_l0_b x1 g0 (zf_M_takesPlaces_l0 x1 g0 n) x2 g1
def zf_M_takesPlaces (x1 : Int) (g0 : (Int → Int)) (g1 : (Int → Int)) : Option (Int × (Int → Int)) := (zf_M_takesPlaces_l0 x1 g0 zi_fu 0 g1).bind fun q14 => Sum.elim (fun e15 => (some (1, e15))) (fun w16 => some w16) q14
theorem zd284_0 : decode zxm284.2.1 0 = .ok (.iconst 0, 1) := by decide +kernel
theorem zd284_1 : decode zxm284.2.1 1 = .ok (.istore_n 2, 1) := by decide +kernel
theorem zd284_2 : decode zxm284.2.1 2 = .ok (.iload_n 2, 1) := by decide +kernel
theorem zd284_3 : decode zxm284.2.1 3 = .ok (.iload_n 1, 1) := by decide +kernel
theorem zd284_4 : decode zxm284.2.1 4 = .ok (.if_icmp .ge 95, 3) := by decide +kernel
theorem zd284_7 : decode zxm284.2.1 7 = .ok (.aload_n 0, 1) := by decide +kernel
theorem zd284_8 : decode zxm284.2.1 8 = .ok (.getfield 19, 3) := by decide +kernel
theorem zd284_11 : decode zxm284.2.1 11 = .ok (.iconst 2, 1) := by decide +kernel
theorem zd284_12 : decode zxm284.2.1 12 = .ok (.iload_n 2, 1) := by decide +kernel
theorem zd284_13 : decode zxm284.2.1 13 = .ok (.imul, 1) := by decide +kernel
theorem zd284_14 : decode zxm284.2.1 14 = .ok (.baload, 1) := by decide +kernel
theorem zd284_15 : decode zxm284.2.1 15 = .ok (.sipush 255, 3) := by decide +kernel
theorem zd284_18 : decode zxm284.2.1 18 = .ok (.iand, 1) := by decide +kernel
theorem zd284_19 : decode zxm284.2.1 19 = .ok (.istore_n 3, 1) := by decide +kernel
theorem zd284_20 : decode zxm284.2.1 20 = .ok (.aload_n 0, 1) := by decide +kernel
theorem zd284_21 : decode zxm284.2.1 21 = .ok (.getfield 19, 3) := by decide +kernel
theorem zd284_24 : decode zxm284.2.1 24 = .ok (.iconst 2, 1) := by decide +kernel
theorem zd284_25 : decode zxm284.2.1 25 = .ok (.iload_n 2, 1) := by decide +kernel
theorem zd284_26 : decode zxm284.2.1 26 = .ok (.imul, 1) := by decide +kernel
theorem zd284_27 : decode zxm284.2.1 27 = .ok (.iconst 1, 1) := by decide +kernel
theorem zd284_28 : decode zxm284.2.1 28 = .ok (.iadd, 1) := by decide +kernel
theorem zd284_29 : decode zxm284.2.1 29 = .ok (.baload, 1) := by decide +kernel
theorem zd284_30 : decode zxm284.2.1 30 = .ok (.sipush 255, 3) := by decide +kernel
theorem zd284_33 : decode zxm284.2.1 33 = .ok (.iand, 1) := by decide +kernel
theorem zd284_34 : decode zxm284.2.1 34 = .ok (.istore 4, 2) := by decide +kernel
theorem zd284_36 : decode zxm284.2.1 36 = .ok (.iload_n 3, 1) := by decide +kernel
theorem zd284_37 : decode zxm284.2.1 37 = .ok (.iload 4, 2) := by decide +kernel
theorem zd284_39 : decode zxm284.2.1 39 = .ok (.invokestatic 154, 3) := by decide +kernel
theorem zd284_42 : decode zxm284.2.1 42 = .ok (.ifCond .ne 5, 3) := by decide +kernel
theorem zd284_45 : decode zxm284.2.1 45 = .ok (.iconst 0, 1) := by decide +kernel
theorem zd284_46 : decode zxm284.2.1 46 = .ok (.ireturn, 1) := by decide +kernel
theorem zd284_47 : decode zxm284.2.1 47 = .ok (.aload_n 0, 1) := by decide +kernel
theorem zd284_48 : decode zxm284.2.1 48 = .ok (.getfield 98, 3) := by decide +kernel
theorem zd284_51 : decode zxm284.2.1 51 = .ok (.iload_n 2, 1) := by decide +kernel
theorem zd284_52 : decode zxm284.2.1 52 = .ok (.bipush 24, 2) := by decide +kernel
theorem zd284_54 : decode zxm284.2.1 54 = .ok (.iload 4, 2) := by decide +kernel
theorem zd284_56 : decode zxm284.2.1 56 = .ok (.imul, 1) := by decide +kernel
theorem zd284_57 : decode zxm284.2.1 57 = .ok (.iload_n 3, 1) := by decide +kernel
theorem zd284_58 : decode zxm284.2.1 58 = .ok (.iadd, 1) := by decide +kernel
theorem zd284_59 : decode zxm284.2.1 59 = .ok (.iastore, 1) := by decide +kernel
theorem zd284_60 : decode zxm284.2.1 60 = .ok (.iconst 0, 1) := by decide +kernel
theorem zd284_61 : decode zxm284.2.1 61 = .ok (.istore 5, 2) := by decide +kernel
theorem zd284_63 : decode zxm284.2.1 63 = .ok (.iload 5, 2) := by decide +kernel
theorem zd284_65 : decode zxm284.2.1 65 = .ok (.iload_n 2, 1) := by decide +kernel
theorem zd284_66 : decode zxm284.2.1 66 = .ok (.if_icmp .ge 27, 3) := by decide +kernel
theorem zd284_69 : decode zxm284.2.1 69 = .ok (.aload_n 0, 1) := by decide +kernel
theorem zd284_70 : decode zxm284.2.1 70 = .ok (.getfield 98, 3) := by decide +kernel
theorem zd284_73 : decode zxm284.2.1 73 = .ok (.iload 5, 2) := by decide +kernel
theorem zd284_75 : decode zxm284.2.1 75 = .ok (.iaload, 1) := by decide +kernel
theorem zd284_76 : decode zxm284.2.1 76 = .ok (.aload_n 0, 1) := by decide +kernel
theorem zd284_77 : decode zxm284.2.1 77 = .ok (.getfield 98, 3) := by decide +kernel
theorem zd284_80 : decode zxm284.2.1 80 = .ok (.iload_n 2, 1) := by decide +kernel
theorem zd284_81 : decode zxm284.2.1 81 = .ok (.iaload, 1) := by decide +kernel
theorem zd284_82 : decode zxm284.2.1 82 = .ok (.if_icmp .ne 5, 3) := by decide +kernel
theorem zd284_85 : decode zxm284.2.1 85 = .ok (.iconst 0, 1) := by decide +kernel
theorem zd284_86 : decode zxm284.2.1 86 = .ok (.ireturn, 1) := by decide +kernel
theorem zd284_87 : decode zxm284.2.1 87 = .ok (.iinc 5 1, 3) := by decide +kernel
theorem zd284_90 : decode zxm284.2.1 90 = .ok (.goto (-27), 3) := by decide +kernel
theorem zd284_93 : decode zxm284.2.1 93 = .ok (.iinc 2 1, 3) := by decide +kernel
theorem zd284_96 : decode zxm284.2.1 96 = .ok (.goto (-94), 3) := by decide +kernel
theorem zd284_99 : decode zxm284.2.1 99 = .ok (.iconst 1, 1) := by decide +kernel
theorem zd284_100 : decode zxm284.2.1 100 = .ok (.ireturn, 1) := by decide +kernel
theorem zt_M_takesPlaces {x1 : Int} {g0 : (Int → Int)} {g1 : (Int → Int)} {o : Int × (Int → Int)} (h : zf_M_takesPlaces x1 g0 g1 = some o) : zv_Fn z_TB z_cl z_KX zy_M_takesPlaces zxm284 (1, 60) [.inr 0, .inl x1] [] [g0, g1] (some o.1) [] [g0, o.2] := zv_meth (K := (z_KF13, z_KC13, z_KL13, z_KT13, [], [], [], none)) (FT := z_FT) (MT := z_MT) (n := 2) zxp284 (z_ks13 _ (fun _ h => List.mem_cons_of_mem _ h) _ _ _ _ (fun j r h _ => by cases h)) (fun _ _ => zs_KX_p) zyw_M_takesPlaces (fun va F G h => by obtain ⟨rfl, _⟩ := h; rfl) (fun va F G h => by obtain ⟨rfl, _⟩ := h; rfl) rfl fun good va F G hB hret hvret hP => by
  obtain ⟨rfl, rfl, rfl⟩ := hP
  have l1 : ∀ (n : Nat) (x1 : Int) (x2 : Int) (x5 : Int) (g1 : (Int → Int)) (q : ((Unit) ⊕ (Int × (Int → Int)))), zf_M_takesPlaces_l1 x2 g1 n x5 = some q → (Sum.elim (fun e : Unit => good 93 [.inr 0, .inl x1, .inl x2, .inr 1000, .inr 1000, .inr 1000] [] [] [g0, g1]) (fun w : Int × (Int → Int) => w = o) q) → good 63 [.inr 0, .inl x1, .inl x2, .inr 1000, .inr 1000, .inl x5] [] [] [g0, g1] := by
    intro n
    induction n with
    | zero => intro x1 x2 x5 g1 q h; exact absurd (show none = some q from h) (fun h => by cases h)
    | succ n ih =>
      intro x1 x2 x5 g1 q h hK
      replace h : zf_M_takesPlaces_l1_b x2 g1 (zf_M_takesPlaces_l1 x2 g1 n) x5 = some q := h
      unfold zf_M_takesPlaces_l1_b at h
      refine zv_ild hB zd284_63 rfl rfl ?_
      refine zv_ild hB zd284_65 rfl rfl ?_
      refine zv_cge hB zd284_66 rfl (fun hc7 => ?_) (fun hc7 => ?_)
      · rw [if_neg (Int.not_lt.mpr hc7)] at h
        have hq := Option.some.inj h
        subst hq
        refine zv_wk hB (L' := [.inr 0, .inl x1, .inl x2, .inr 1000, .inr 1000, .inr 1000]) (F' := []) ⟨fun _ => rfl, fun _ => rfl, fun _ => rfl, fun (h : zv_is (.inr 1000)) => (Nat.lt_irrefl 1000 h).elim, fun (h : zv_is (.inr 1000)) => (Nat.lt_irrefl 1000 h).elim, fun (h : zv_is (.inr 1000)) => (Nat.lt_irrefl 1000 h).elim, trivial⟩ trivial ?_
        exact hK
      · rw [if_pos hc7] at h
        refine zv_ald hB zd284_69 rfl rfl rfl ?_
        refine zv_getr hB zd284_70 rfl ?_
        refine zv_ild hB zd284_73 rfl rfl ?_
        obtain ⟨c8, h⟩ := zi_if h
        refine zv_iald hB zd284_75 rfl rfl (zi_ix_ok c8).1 (zi_ix_ok c8).2 (fun _ _ => ?_)
        refine zv_ald hB zd284_76 rfl rfl rfl ?_
        refine zv_getr hB zd284_77 rfl ?_
        refine zv_ild hB zd284_80 rfl rfl ?_
        obtain ⟨c9, h⟩ := zi_if h
        refine zv_iald hB zd284_81 rfl rfl (zi_ix_ok c9).1 (zi_ix_ok c9).2 (fun _ _ => ?_)
        refine zv_cne hB zd284_82 rfl (fun hc10 => ?_) (fun hc10 => ?_)
        · rw [if_neg hc10] at h
          refine zv_iincw hB zd284_87 rfl rfl ?_
          refine zv_goto hB zd284_90 rfl ?_
          exact ih _ _ _ _ q h hK
        · rw [if_pos hc10] at h
          refine zv_con hB zd284_85 rfl ?_
          have hw : (0, g1) = o := zi_rk (Option.some.inj h) hK
          subst hw
          exact hret _ _ _ _ _ zd284_86 (by constructor <;> decide) ⟨rfl, rfl, rfl⟩
  have l0 : ∀ (n : Nat) (x1 : Int) (x2 : Int) (g1 : (Int → Int)) (q : (((Int → Int)) ⊕ (Int × (Int → Int)))), zf_M_takesPlaces_l0 x1 g0 n x2 g1 = some q → (Sum.elim (fun e : (Int → Int) => good 99 [.inr 1000, .inr 1000, .inr 1000, .inr 1000, .inr 1000, .inr 1000] [] [] [g0, e]) (fun w : Int × (Int → Int) => w = o) q) → good 2 [.inr 0, .inl x1, .inl x2, .inr 1000, .inr 1000, .inr 1000] [] [] [g0, g1] := by
    intro n
    induction n with
    | zero => intro x1 x2 g1 q h; exact absurd (show none = some q from h) (fun h => by cases h)
    | succ n ih =>
      intro x1 x2 g1 q h hK
      replace h : zf_M_takesPlaces_l0_b x1 g0 (zf_M_takesPlaces_l0 x1 g0 n) x2 g1 = some q := h
      unfold zf_M_takesPlaces_l0_b at h
      refine zv_ild hB zd284_2 rfl rfl ?_
      refine zv_ild hB zd284_3 rfl rfl ?_
      refine zv_cge hB zd284_4 rfl (fun hc1 => ?_) (fun hc1 => ?_)
      · rw [if_neg (Int.not_lt.mpr hc1)] at h
        have hq := Option.some.inj h
        subst hq
        refine zv_wk hB (L' := [.inr 1000, .inr 1000, .inr 1000, .inr 1000, .inr 1000, .inr 1000]) (F' := []) ⟨fun (h : zv_is (.inr 1000)) => (Nat.lt_irrefl 1000 h).elim, fun (h : zv_is (.inr 1000)) => (Nat.lt_irrefl 1000 h).elim, fun (h : zv_is (.inr 1000)) => (Nat.lt_irrefl 1000 h).elim, fun (h : zv_is (.inr 1000)) => (Nat.lt_irrefl 1000 h).elim, fun (h : zv_is (.inr 1000)) => (Nat.lt_irrefl 1000 h).elim, fun (h : zv_is (.inr 1000)) => (Nat.lt_irrefl 1000 h).elim, trivial⟩ trivial ?_
        exact hK
      · rw [if_pos hc1] at h
        refine zv_ald hB zd284_7 rfl rfl rfl ?_
        refine zv_getr hB zd284_8 rfl ?_
        refine zv_con hB zd284_11 rfl ?_
        refine zv_ild hB zd284_12 rfl rfl ?_
        refine zv_mulw hB zd284_13 ?_
        obtain ⟨c2, h⟩ := zi_if h
        refine zv_bald hB zd284_14 rfl rfl (zi_ix_ok c2).1 (zi_ix_ok c2).2 (fun _ _ => ?_)
        refine zv_con hB zd284_15 rfl ?_
        refine zv_andw hB zd284_18 ?_
        refine zv_ist hB zd284_19 rfl rfl rfl ?_
        refine zv_ald hB zd284_20 rfl rfl rfl ?_
        refine zv_getr hB zd284_21 rfl ?_
        refine zv_con hB zd284_24 rfl ?_
        refine zv_ild hB zd284_25 rfl rfl ?_
        refine zv_mulw hB zd284_26 ?_
        refine zv_con hB zd284_27 rfl ?_
        refine zv_addw hB zd284_28 ?_
        obtain ⟨c3, h⟩ := zi_if h
        refine zv_bald hB zd284_29 rfl rfl (zi_ix_ok c3).1 (zi_ix_ok c3).2 (fun _ _ => ?_)
        refine zv_con hB zd284_30 rfl ?_
        refine zv_andw hB zd284_33 ?_
        refine zv_ist hB zd284_34 rfl rfl rfl ?_
        refine zv_ild hB zd284_36 rfl rfl ?_
        refine zv_ild hB zd284_37 rfl rfl ?_
        obtain ⟨r4, hr4, h⟩ := zi_bind h
        refine zv_cs hB (zv_emq (va2 := [.inl (zi_and (g0 (zi_w (2 * x2))) 255), .inl (zi_and (g0 (zi_w ((zi_w (2 * x2)) + 1))) 255)]) (F := []) (F' := []) (G := [g0, g1]) (G' := [g0, g1]) (ρ := []) (φ := []) (ψ := []) [] [none, none] zyw_M_isPlace zyw_M_takesPlaces zye_M_takesPlaces (by decide +kernel) (zt_M_isPlace hr4) trivial trivial rfl rfl rfl rfl rfl rfl rfl) zd284_39 zxt201 rfl (by decide) (by decide) rfl ?_
        refine zv_zne hB zd284_42 rfl (fun hc5 => ?_) (fun hc5 => ?_)
        · rw [if_neg hc5] at h
          refine zv_ald hB zd284_47 rfl rfl rfl ?_
          refine zv_getr hB zd284_48 rfl ?_
          refine zv_ild hB zd284_51 rfl rfl ?_
          refine zv_con hB zd284_52 rfl ?_
          refine zv_ild hB zd284_54 rfl rfl ?_
          refine zv_mulw hB zd284_56 ?_
          refine zv_ild hB zd284_57 rfl rfl ?_
          refine zv_addw hB zd284_58 ?_
          obtain ⟨c6, h⟩ := zi_if h
          refine zv_iast hB zd284_59 rfl rfl (zi_ix_ok c6).1 (zi_ix_ok c6).2 ?_
          refine zv_con hB zd284_60 rfl ?_
          refine zv_ist hB zd284_61 rfl rfl rfl ?_
          obtain ⟨q11, hq11, h⟩ := zi_bind h
          refine zv_wk hB (L' := [.inr 0, .inl x1, .inl x2, .inr 1000, .inr 1000, .inl 0]) (F' := []) ⟨fun _ => rfl, fun _ => rfl, fun _ => rfl, fun (h : zv_is (.inr 1000)) => (Nat.lt_irrefl 1000 h).elim, fun (h : zv_is (.inr 1000)) => (Nat.lt_irrefl 1000 h).elim, fun _ => rfl, trivial⟩ trivial ?_
          refine l1 _ _ _ _ _ q11 hq11 ?_
          rcases q11 with e12 | w13
          · replace h := zi_sl h
            show good 93 [.inr 0, .inl x1, .inl x2, .inr 1000, .inr 1000, .inr 1000] [] [] [g0, (zv_up g1 x2 (zi_w ((zi_w (24 * (zi_and (g0 (zi_w ((zi_w (2 * x2)) + 1))) 255))) + (zi_and (g0 (zi_w (2 * x2))) 255))))]
            refine zv_iincw hB zd284_93 rfl rfl ?_
            refine zv_goto hB zd284_96 rfl ?_
            exact ih _ _ _ q h hK
          · exact zi_rk (Option.some.inj h) hK
        · rw [if_pos hc5] at h
          refine zv_con hB zd284_45 rfl ?_
          have hw : (0, g1) = o := zi_rk (Option.some.inj h) hK
          subst hw
          exact hret _ _ _ _ _ zd284_46 (by constructor <;> decide) ⟨rfl, rfl, rfl⟩
  unfold zf_M_takesPlaces at h
  refine zv_con hB zd284_0 rfl ?_
  refine zv_ist hB zd284_1 rfl rfl rfl ?_
  obtain ⟨q14, hq14, h⟩ := zi_bind h
  refine l0 _ _ _ _ q14 hq14 ?_
  rcases q14 with e15 | w16
  · replace h := zi_sl h
    show good 99 [.inr 1000, .inr 1000, .inr 1000, .inr 1000, .inr 1000, .inr 1000] [] [] [g0, e15]
    refine zv_con hB zd284_99 rfl ?_
    have hw := Option.some.inj h
    subst hw
    exact hret _ _ _ _ _ zd284_100 (by constructor <;> decide) ⟨rfl, rfl, rfl⟩
  · exact Option.some.inj h
end
