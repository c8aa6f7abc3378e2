/-! Methods as functions, and that they do what these do. -/
/-! M_canBe (II)Z -/
-- names: 0 StarTalesModel('arg', 0), 1 (0, 8)(0, 12, 39), 2 (0, 12)(0, 12, 34), 3 (0, 8)(0, 12, 38), 4 (0, 12)(0, 12, 35), 5 (0, 24)(0, 12, 28)
-- fields: f0 = 0.taleLines_; arrays: g0 = 1, g1 = 2, g2 = 3, g3 = 4, g4 = 5; out: [('ret', None)]
abbrev zy_M_canBe : zNL := (6, [(0, 12)], [(0, 12, 31, 0)], [(0, 12, 39, 1), (0, 12, 34, 2), (0, 12, 38, 3), (0, 12, 35, 4), (0, 12, 28, 5)], [(1, 0, 8, 0), (2, 0, 12, 1), (3, 0, 8, 2), (4, 0, 12, 3), (5, 0, 24, 4)])
theorem zyw_M_canBe : zv_wf zy_M_canBe = true := by decide +kernel
theorem zye_M_canBe : zv_ek2 zy_M_canBe = true := by decide +kernel
def zf_M_canBe_l1_b (x1 : Int) (x2 : Int) (x3 : Int) (f0 : Int) (g0 : (Int → Int)) (g1 : (Int → Int)) (g2 : (Int → Int)) (g3 : (Int → Int)) (g4 : (Int → Int)) (rec : Int → Option (((Unit) ⊕ (Int)))) (x4 : Int) : Option (((Unit) ⊕ (Int))) := if x4 < f0 then (cond (zi_ix x4 12) (cond (zi_ix x3 8) (if (g1 x4) = (g2 x3) then (cond (zi_ix x1 8) (if (g3 x4) = (g2 x1) then (cond (zi_ix x2 24) ((zf_M_has (g4 x2) (g0 x3)).bind fun r21 => (if r21 = 0 then (some (.inr 0)) else (rec (zi_w (x4 + 1))))) none) else (if (g1 x4) = (g2 x1) then (if (g3 x4) = (g2 x3) then (cond (zi_ix x2 24) ((zf_M_has (g4 x2) (g0 x3)).bind fun r29 => (if r29 = 0 then (some (.inr 0)) else (rec (zi_w (x4 + 1))))) none) else (rec (zi_w (x4 + 1)))) else (rec (zi_w (x4 + 1))))) none) else (cond (zi_ix x1 8) (if (g1 x4) = (g2 x1) then (if (g3 x4) = (g2 x3) then (cond (zi_ix x2 24) ((zf_M_has (g4 x2) (g0 x3)).bind fun r15 => (if r15 = 0 then (some (.inr 0)) else (rec (zi_w (x4 + 1))))) none) else (rec (zi_w (x4 + 1)))) else (rec (zi_w (x4 + 1)))) none)) none) none) else (some (.inl ()))
def zf_M_canBe_l1 (x1 : Int) (x2 : Int) (x3 : Int) (f0 : Int) (g0 : (Int → Int)) (g1 : (Int → Int)) (g2 : (Int → Int)) (g3 : (Int → Int)) (g4 : (Int → Int)) : Nat → Int → Option (((Unit) ⊕ (Int)))
  | 0, _ => none
  | n + 1, x4 => zf_M_canBe_l1_b x1 x2 x3 f0 g0 g1 g2 g3 g4 (zf_M_canBe_l1 x1 x2 x3 f0 g0 g1 g2 g3 g4 n) x4
def zf_M_canBe_l0_b (x1 : Int) (x2 : Int) (f0 : Int) (g0 : (Int → Int)) (g1 : (Int → Int)) (g2 : (Int → Int)) (g3 : (Int → Int)) (g4 : (Int → Int)) (rec : Int → Option (((Unit) ⊕ (Int)))) (x3 : Int) : Option (((Unit) ⊕ (Int))) := if x3 < x1 then (cond (zi_ix x3 8) (if (g0 x3) = x2 then (some (.inr 0)) else ((zf_M_canBe_l1 x1 x2 x3 f0 g0 g1 g2 g3 g4 zi_fu 0).bind fun q31 => Sum.elim (fun e32 => (rec (zi_w (x3 + 1)))) (fun w33 => some (.inr w33)) q31)) none) else (some (.inl ()))
def zf_M_canBe_l0 (x1 : Int) (x2 : Int) (f0 : Int) (g0 : (Int → Int)) (g1 : (Int → Int)) (g2 : (Int → Int)) (g3 : (Int → Int)) (g4 : (Int → Int)) : Nat → Int → Option (((Unit) ⊕ (Int)))
  | 0, _ => none
  | n + 1, x3 => zf_M_canBe_l0_b x1 x2 f0 g0 g1 g2 g3 g4 (zf_M_canBe_l0 x1 x2 f0 g0 g1 g2 g3 g4 n) x3
def zf_M_canBe (x1 : Int) (x2 : Int) (f0 : Int) (g0 : (Int → Int)) (g1 : (Int → Int)) (g2 : (Int → Int)) (g3 : (Int → Int)) (g4 : (Int → Int)) : Option (Int) := (zf_M_canBe_l0 x1 x2 f0 g0 g1 g2 g3 g4 zi_fu 0).bind fun q34 => Sum.elim (fun e35 => (some 1)) (fun w36 => some w36) q34
theorem zd270_0 : decode zxm270.2.1 0 = .ok (.iconst 0, 1) := by decide +kernel
theorem zd270_1 : decode zxm270.2.1 1 = .ok (.istore_n 3, 1) := by decide +kernel
theorem zd270_2 : decode zxm270.2.1 2 = .ok (.iload_n 3, 1) := by decide +kernel
theorem zd270_3 : decode zxm270.2.1 3 = .ok (.iload_n 1, 1) := by decide +kernel
theorem zd270_4 : decode zxm270.2.1 4 = .ok (.if_icmp .ge 135, 3) := by decide +kernel
theorem zd270_7 : decode zxm270.2.1 7 = .ok (.aload_n 0, 1) := by decide +kernel
theorem zd270_8 : decode zxm270.2.1 8 = .ok (.getfield 80, 3) := by decide +kernel
theorem zd270_11 : decode zxm270.2.1 11 = .ok (.iload_n 3, 1) := by decide +kernel
theorem zd270_12 : decode zxm270.2.1 12 = .ok (.iaload, 1) := by decide +kernel
theorem zd270_13 : decode zxm270.2.1 13 = .ok (.iload_n 2, 1) := by decide +kernel
theorem zd270_14 : decode zxm270.2.1 14 = .ok (.if_icmp .ne 5, 3) := by decide +kernel
theorem zd270_17 : decode zxm270.2.1 17 = .ok (.iconst 0, 1) := by decide +kernel
theorem zd270_18 : decode zxm270.2.1 18 = .ok (.ireturn, 1) := by decide +kernel
theorem zd270_19 : decode zxm270.2.1 19 = .ok (.iconst 0, 1) := by decide +kernel
theorem zd270_20 : decode zxm270.2.1 20 = .ok (.istore 4, 2) := by decide +kernel
theorem zd270_22 : decode zxm270.2.1 22 = .ok (.iload 4, 2) := by decide +kernel
theorem zd270_24 : decode zxm270.2.1 24 = .ok (.aload_n 0, 1) := by decide +kernel
theorem zd270_25 : decode zxm270.2.1 25 = .ok (.getfield 351, 3) := by decide +kernel
theorem zd270_28 : decode zxm270.2.1 28 = .ok (.if_icmp .ge 105, 3) := by decide +kernel
theorem zd270_31 : decode zxm270.2.1 31 = .ok (.aload_n 0, 1) := by decide +kernel
theorem zd270_32 : decode zxm270.2.1 32 = .ok (.getfield 65, 3) := by decide +kernel
theorem zd270_35 : decode zxm270.2.1 35 = .ok (.iload 4, 2) := by decide +kernel
theorem zd270_37 : decode zxm270.2.1 37 = .ok (.iaload, 1) := by decide +kernel
theorem zd270_38 : decode zxm270.2.1 38 = .ok (.aload_n 0, 1) := by decide +kernel
theorem zd270_39 : decode zxm270.2.1 39 = .ok (.getfield 77, 3) := by decide +kernel
theorem zd270_42 : decode zxm270.2.1 42 = .ok (.iload_n 3, 1) := by decide +kernel
theorem zd270_43 : decode zxm270.2.1 43 = .ok (.iaload, 1) := by decide +kernel
theorem zd270_44 : decode zxm270.2.1 44 = .ok (.if_icmp .ne 19, 3) := by decide +kernel
theorem zd270_47 : decode zxm270.2.1 47 = .ok (.aload_n 0, 1) := by decide +kernel
theorem zd270_48 : decode zxm270.2.1 48 = .ok (.getfield 68, 3) := by decide +kernel
theorem zd270_51 : decode zxm270.2.1 51 = .ok (.iload 4, 2) := by decide +kernel
theorem zd270_53 : decode zxm270.2.1 53 = .ok (.iaload, 1) := by decide +kernel
theorem zd270_54 : decode zxm270.2.1 54 = .ok (.aload_n 0, 1) := by decide +kernel
theorem zd270_55 : decode zxm270.2.1 55 = .ok (.getfield 77, 3) := by decide +kernel
theorem zd270_58 : decode zxm270.2.1 58 = .ok (.iload_n 1, 1) := by decide +kernel
theorem zd270_59 : decode zxm270.2.1 59 = .ok (.iaload, 1) := by decide +kernel
theorem zd270_60 : decode zxm270.2.1 60 = .ok (.if_icmp .eq 35, 3) := by decide +kernel
theorem zd270_63 : decode zxm270.2.1 63 = .ok (.aload_n 0, 1) := by decide +kernel
theorem zd270_64 : decode zxm270.2.1 64 = .ok (.getfield 65, 3) := by decide +kernel
theorem zd270_67 : decode zxm270.2.1 67 = .ok (.iload 4, 2) := by decide +kernel
theorem zd270_69 : decode zxm270.2.1 69 = .ok (.iaload, 1) := by decide +kernel
theorem zd270_70 : decode zxm270.2.1 70 = .ok (.aload_n 0, 1) := by decide +kernel
theorem zd270_71 : decode zxm270.2.1 71 = .ok (.getfield 77, 3) := by decide +kernel
theorem zd270_74 : decode zxm270.2.1 74 = .ok (.iload_n 1, 1) := by decide +kernel
theorem zd270_75 : decode zxm270.2.1 75 = .ok (.iaload, 1) := by decide +kernel
theorem zd270_76 : decode zxm270.2.1 76 = .ok (.if_icmp .ne 23, 3) := by decide +kernel
theorem zd270_79 : decode zxm270.2.1 79 = .ok (.aload_n 0, 1) := by decide +kernel
theorem zd270_80 : decode zxm270.2.1 80 = .ok (.getfield 68, 3) := by decide +kernel
theorem zd270_83 : decode zxm270.2.1 83 = .ok (.iload 4, 2) := by decide +kernel
theorem zd270_85 : decode zxm270.2.1 85 = .ok (.iaload, 1) := by decide +kernel
theorem zd270_86 : decode zxm270.2.1 86 = .ok (.aload_n 0, 1) := by decide +kernel
theorem zd270_87 : decode zxm270.2.1 87 = .ok (.getfield 77, 3) := by decide +kernel
theorem zd270_90 : decode zxm270.2.1 90 = .ok (.iload_n 3, 1) := by decide +kernel
theorem zd270_91 : decode zxm270.2.1 91 = .ok (.iaload, 1) := by decide +kernel
theorem zd270_92 : decode zxm270.2.1 92 = .ok (.if_icmp .ne 7, 3) := by decide +kernel
theorem zd270_95 : decode zxm270.2.1 95 = .ok (.iconst 1, 1) := by decide +kernel
theorem zd270_96 : decode zxm270.2.1 96 = .ok (.goto 4, 3) := by decide +kernel
theorem zd270_99 : decode zxm270.2.1 99 = .ok (.iconst 0, 1) := by decide +kernel
theorem zd270_100 : decode zxm270.2.1 100 = .ok (.istore 5, 2) := by decide +kernel
theorem zd270_102 : decode zxm270.2.1 102 = .ok (.iload 5, 2) := by decide +kernel
theorem zd270_104 : decode zxm270.2.1 104 = .ok (.ifCond .eq 23, 3) := by decide +kernel
theorem zd270_107 : decode zxm270.2.1 107 = .ok (.aload_n 0, 1) := by decide +kernel
theorem zd270_108 : decode zxm270.2.1 108 = .ok (.getfield 62, 3) := by decide +kernel
theorem zd270_111 : decode zxm270.2.1 111 = .ok (.iload_n 2, 1) := by decide +kernel
theorem zd270_112 : decode zxm270.2.1 112 = .ok (.iaload, 1) := by decide +kernel
theorem zd270_113 : decode zxm270.2.1 113 = .ok (.aload_n 0, 1) := by decide +kernel
theorem zd270_114 : decode zxm270.2.1 114 = .ok (.getfield 80, 3) := by decide +kernel
theorem zd270_117 : decode zxm270.2.1 117 = .ok (.iload_n 3, 1) := by decide +kernel
theorem zd270_118 : decode zxm270.2.1 118 = .ok (.iaload, 1) := by decide +kernel
theorem zd270_119 : decode zxm270.2.1 119 = .ok (.invokestatic 138, 3) := by decide +kernel
theorem zd270_122 : decode zxm270.2.1 122 = .ok (.ifCond .ne 5, 3) := by decide +kernel
theorem zd270_125 : decode zxm270.2.1 125 = .ok (.iconst 0, 1) := by decide +kernel
theorem zd270_126 : decode zxm270.2.1 126 = .ok (.ireturn, 1) := by decide +kernel
theorem zd270_127 : decode zxm270.2.1 127 = .ok (.iinc 4 1, 3) := by decide +kernel
theorem zd270_130 : decode zxm270.2.1 130 = .ok (.goto (-108), 3) := by decide +kernel
theorem zd270_133 : decode zxm270.2.1 133 = .ok (.iinc 3 1, 3) := by decide +kernel
theorem zd270_136 : decode zxm270.2.1 136 = .ok (.goto (-134), 3) := by decide +kernel
theorem zd270_139 : decode zxm270.2.1 139 = .ok (.iconst 1, 1) := by decide +kernel
theorem zd270_140 : decode zxm270.2.1 140 = .ok (.ireturn, 1) := by decide +kernel
theorem zt_M_canBe {x1 : Int} {x2 : Int} {f0 : Int} {g0 : (Int → Int)} {g1 : (Int → Int)} {g2 : (Int → Int)} {g3 : (Int → Int)} {g4 : (Int → Int)} {o : Int} (h : zf_M_canBe x1 x2 f0 g0 g1 g2 g3 g4 = some o) : zv_Fn z_TB z_cl z_KX zy_M_canBe zxm270 (1, 60) [.inr 0, .inl x1, .inl x2] [.inl f0] [g0, g1, g2, g3, g4] (some o) [.inl f0] [g0, g1, g2, g3, g4] := zv_meth (K := (z_KF13, z_KC13, z_KL13, z_KT13, [], [], [], none)) (FT := z_FT) (MT := z_MT) (n := 3) zxp270 (z_ks13 _ (fun _ h => List.mem_cons_of_mem _ h) _ _ _ _ (fun j r h _ => by cases h)) (fun _ _ => zs_KX_p) zyw_M_canBe (fun va F G h => by obtain ⟨rfl, _⟩ := h; rfl) (fun va F G h => by obtain ⟨rfl, _⟩ := h; rfl) rfl fun good va F G hB hret hvret hP => by
  obtain ⟨rfl, rfl, rfl⟩ := hP
  have l1 : ∀ (n : Nat) (x1 : Int) (x2 : Int) (x3 : Int) (x4 : Int) (q : ((Unit) ⊕ (Int))), zf_M_canBe_l1 x1 x2 x3 f0 g0 g1 g2 g3 g4 n x4 = some q → (Sum.elim (fun e : Unit => good 133 [.inr 0, .inl x1, .inl x2, .inl x3, .inr 1000, .inr 1000] [] [.inl f0] [g0, g1, g2, g3, g4]) (fun w : Int => w = o) q) → good 22 [.inr 0, .inl x1, .inl x2, .inl x3, .inl x4, .inr 1000] [] [.inl f0] [g0, g1, g2, g3, g4] := by
    intro n
    induction n with
    | zero => intro x1 x2 x3 x4 q h; exact absurd (show none = some q from h) (fun h => by cases h)
    | succ n ih =>
      intro x1 x2 x3 x4 q h hK
      replace h : zf_M_canBe_l1_b x1 x2 x3 f0 g0 g1 g2 g3 g4 (zf_M_canBe_l1 x1 x2 x3 f0 g0 g1 g2 g3 g4 n) x4 = some q := h
      unfold zf_M_canBe_l1_b at h
      refine zv_ild hB zd270_22 rfl rfl ?_
      refine zv_ald hB zd270_24 rfl rfl rfl ?_
      refine zv_getf hB zd270_25 rfl rfl (fun _ _ => ?_)
      refine zv_cge hB zd270_28 rfl (fun hc4 => ?_) (fun hc4 => ?_)
      · rw [if_neg (Int.not_lt.mpr hc4)] at h
        have hq := Option.some.inj h
        subst hq
        refine zv_wk hB (L' := [.inr 0, .inl x1, .inl x2, .inl x3, .inr 1000, .inr 1000]) (F' := [.inl f0]) ⟨fun _ => rfl, fun _ => rfl, fun _ => rfl, fun _ => rfl, fun (h : zv_is (.inr 1000)) => (Nat.lt_irrefl 1000 h).elim, fun (h : zv_is (.inr 1000)) => (Nat.lt_irrefl 1000 h).elim, trivial⟩ ⟨fun _ => rfl, trivial⟩ ?_
        exact hK
      · rw [if_pos hc4] at h
        refine zv_ald hB zd270_31 rfl rfl rfl ?_
        refine zv_getr hB zd270_32 rfl ?_
        refine zv_ild hB zd270_35 rfl rfl ?_
        obtain ⟨c5, h⟩ := zi_if h
        refine zv_iald hB zd270_37 rfl rfl (zi_ix_ok c5).1 (zi_ix_ok c5).2 (fun _ _ => ?_)
        refine zv_ald hB zd270_38 rfl rfl rfl ?_
        refine zv_getr hB zd270_39 rfl ?_
        refine zv_ild hB zd270_42 rfl rfl ?_
        obtain ⟨c6, h⟩ := zi_if h
        refine zv_iald hB zd270_43 rfl rfl (zi_ix_ok c6).1 (zi_ix_ok c6).2 (fun _ _ => ?_)
        refine zv_cne hB zd270_44 rfl (fun hc7 => ?_) (fun hc7 => ?_)
        · rw [if_neg hc7] at h
          refine zv_ald hB zd270_63 rfl rfl rfl ?_
          refine zv_getr hB zd270_64 rfl ?_
          refine zv_ild hB zd270_67 rfl rfl ?_
          refine zv_iald hB zd270_69 rfl rfl (zi_ix_ok c5).1 (zi_ix_ok c5).2 (fun _ _ => ?_)
          refine zv_ald hB zd270_70 rfl rfl rfl ?_
          refine zv_getr hB zd270_71 rfl ?_
          refine zv_ild hB zd270_74 rfl rfl ?_
          obtain ⟨c8, h⟩ := zi_if h
          refine zv_iald hB zd270_75 rfl rfl (zi_ix_ok c8).1 (zi_ix_ok c8).2 (fun _ _ => ?_)
          refine zv_cne hB zd270_76 rfl (fun hc9 => ?_) (fun hc9 => ?_)
          · rw [if_neg hc9] at h
            refine zv_con hB zd270_99 rfl ?_
            refine zv_ist hB zd270_100 rfl rfl rfl ?_
            refine zv_ild hB zd270_102 rfl rfl ?_
            refine zv_zeq hB zd270_104 rfl (fun _ => ?_) (fun hc => absurd hc (by decide))
            refine zv_iincw hB zd270_127 rfl rfl ?_
            refine zv_goto hB zd270_130 rfl ?_
            refine zv_wk hB (L' := [.inr 0, .inl x1, .inl x2, .inl x3, .inl (zi_w (x4 + 1)), .inr 1000]) (F' := [.inl f0]) ⟨fun _ => rfl, fun _ => rfl, fun _ => rfl, fun _ => rfl, fun _ => rfl, fun (h : zv_is (.inr 1000)) => (Nat.lt_irrefl 1000 h).elim, trivial⟩ ⟨fun _ => rfl, trivial⟩ ?_
            exact ih _ _ _ _ q h hK
          · rw [if_pos hc9] at h
            refine zv_ald hB zd270_79 rfl rfl rfl ?_
            refine zv_getr hB zd270_80 rfl ?_
            refine zv_ild hB zd270_83 rfl rfl ?_
            refine zv_iald hB zd270_85 rfl rfl (zi_ix_ok c5).1 (zi_ix_ok c5).2 (fun _ _ => ?_)
            refine zv_ald hB zd270_86 rfl rfl rfl ?_
            refine zv_getr hB zd270_87 rfl ?_
            refine zv_ild hB zd270_90 rfl rfl ?_
            refine zv_iald hB zd270_91 rfl rfl (zi_ix_ok c6).1 (zi_ix_ok c6).2 (fun _ _ => ?_)
            refine zv_cne hB zd270_92 rfl (fun hc11 => ?_) (fun hc11 => ?_)
            · rw [if_neg hc11] at h
              refine zv_con hB zd270_99 rfl ?_
              refine zv_ist hB zd270_100 rfl rfl rfl ?_
              refine zv_ild hB zd270_102 rfl rfl ?_
              refine zv_zeq hB zd270_104 rfl (fun _ => ?_) (fun hc => absurd hc (by decide))
              refine zv_iincw hB zd270_127 rfl rfl ?_
              refine zv_goto hB zd270_130 rfl ?_
              refine zv_wk hB (L' := [.inr 0, .inl x1, .inl x2, .inl x3, .inl (zi_w (x4 + 1)), .inr 1000]) (F' := [.inl f0]) ⟨fun _ => rfl, fun _ => rfl, fun _ => rfl, fun _ => rfl, fun _ => rfl, fun (h : zv_is (.inr 1000)) => (Nat.lt_irrefl 1000 h).elim, trivial⟩ ⟨fun _ => rfl, trivial⟩ ?_
              exact ih _ _ _ _ q h hK
            · rw [if_pos hc11] at h
              refine zv_con hB zd270_95 rfl ?_
              refine zv_goto hB zd270_96 rfl ?_
              refine zv_ist hB zd270_100 rfl rfl rfl ?_
              refine zv_ild hB zd270_102 rfl rfl ?_
              refine zv_zeq hB zd270_104 rfl (fun hc => absurd hc (by decide)) (fun _ => ?_)
              refine zv_ald hB zd270_107 rfl rfl rfl ?_
              refine zv_getr hB zd270_108 rfl ?_
              refine zv_ild hB zd270_111 rfl rfl ?_
              obtain ⟨c14, h⟩ := zi_if h
              refine zv_iald hB zd270_112 rfl rfl (zi_ix_ok c14).1 (zi_ix_ok c14).2 (fun _ _ => ?_)
              refine zv_ald hB zd270_113 rfl rfl rfl ?_
              refine zv_getr hB zd270_114 rfl ?_
              refine zv_ild hB zd270_117 rfl rfl ?_
              refine zv_iald hB zd270_118 rfl rfl (zi_ix_ok c6).1 (zi_ix_ok c6).2 (fun _ _ => ?_)
              obtain ⟨r15, hr15, h⟩ := zi_bind h
              refine zv_cs hB (zv_emq (va2 := [.inl (g4 x2), .inl (g0 x3)]) (F := [.inl f0]) (F' := [.inl f0]) (G := [g0, g1, g2, g3, g4]) (G' := [g0, g1, g2, g3, g4]) (ρ := []) (φ := []) (ψ := []) [none] [none, none, none, none, none] zyw_M_has zyw_M_canBe zye_M_canBe (by decide +kernel) (zt_M_has hr15) trivial trivial rfl rfl rfl rfl rfl rfl rfl) zd270_119 zxt204 rfl (by decide) (by decide) rfl ?_
              refine zv_zne hB zd270_122 rfl (fun hc16 => ?_) (fun hc16 => ?_)
              · rw [if_neg hc16] at h
                refine zv_iincw hB zd270_127 rfl rfl ?_
                refine zv_goto hB zd270_130 rfl ?_
                refine zv_wk hB (L' := [.inr 0, .inl x1, .inl x2, .inl x3, .inl (zi_w (x4 + 1)), .inr 1000]) (F' := [.inl f0]) ⟨fun _ => rfl, fun _ => rfl, fun _ => rfl, fun _ => rfl, fun _ => rfl, fun (h : zv_is (.inr 1000)) => (Nat.lt_irrefl 1000 h).elim, trivial⟩ ⟨fun _ => rfl, trivial⟩ ?_
                exact ih _ _ _ _ q h hK
              · rw [if_pos hc16] at h
                refine zv_con hB zd270_125 rfl ?_
                have hw : 0 = o := zi_rk (Option.some.inj h) hK
                subst hw
                exact hret _ _ _ _ _ zd270_126 (by constructor <;> decide) ⟨rfl, rfl, rfl⟩
        · rw [if_pos hc7] at h
          refine zv_ald hB zd270_47 rfl rfl rfl ?_
          refine zv_getr hB zd270_48 rfl ?_
          refine zv_ild hB zd270_51 rfl rfl ?_
          refine zv_iald hB zd270_53 rfl rfl (zi_ix_ok c5).1 (zi_ix_ok c5).2 (fun _ _ => ?_)
          refine zv_ald hB zd270_54 rfl rfl rfl ?_
          refine zv_getr hB zd270_55 rfl ?_
          refine zv_ild hB zd270_58 rfl rfl ?_
          obtain ⟨c17, h⟩ := zi_if h
          refine zv_iald hB zd270_59 rfl rfl (zi_ix_ok c17).1 (zi_ix_ok c17).2 (fun _ _ => ?_)
          refine zv_ceq hB zd270_60 rfl (fun hc18 => ?_) (fun hc18 => ?_)
          · rw [if_pos hc18] at h
            refine zv_con hB zd270_95 rfl ?_
            refine zv_goto hB zd270_96 rfl ?_
            refine zv_ist hB zd270_100 rfl rfl rfl ?_
            refine zv_ild hB zd270_102 rfl rfl ?_
            refine zv_zeq hB zd270_104 rfl (fun hc => absurd hc (by decide)) (fun _ => ?_)
            refine zv_ald hB zd270_107 rfl rfl rfl ?_
            refine zv_getr hB zd270_108 rfl ?_
            refine zv_ild hB zd270_111 rfl rfl ?_
            obtain ⟨c20, h⟩ := zi_if h
            refine zv_iald hB zd270_112 rfl rfl (zi_ix_ok c20).1 (zi_ix_ok c20).2 (fun _ _ => ?_)
            refine zv_ald hB zd270_113 rfl rfl rfl ?_
            refine zv_getr hB zd270_114 rfl ?_
            refine zv_ild hB zd270_117 rfl rfl ?_
            refine zv_iald hB zd270_118 rfl rfl (zi_ix_ok c6).1 (zi_ix_ok c6).2 (fun _ _ => ?_)
            obtain ⟨r21, hr21, h⟩ := zi_bind h
            refine zv_cs hB (zv_emq (va2 := [.inl (g4 x2), .inl (g0 x3)]) (F := [.inl f0]) (F' := [.inl f0]) (G := [g0, g1, g2, g3, g4]) (G' := [g0, g1, g2, g3, g4]) (ρ := []) (φ := []) (ψ := []) [none] [none, none, none, none, none] zyw_M_has zyw_M_canBe zye_M_canBe (by decide +kernel) (zt_M_has hr21) trivial trivial rfl rfl rfl rfl rfl rfl rfl) zd270_119 zxt204 rfl (by decide) (by decide) rfl ?_
            refine zv_zne hB zd270_122 rfl (fun hc22 => ?_) (fun hc22 => ?_)
            · rw [if_neg hc22] at h
              refine zv_iincw hB zd270_127 rfl rfl ?_
              refine zv_goto hB zd270_130 rfl ?_
              refine zv_wk hB (L' := [.inr 0, .inl x1, .inl x2, .inl x3, .inl (zi_w (x4 + 1)), .inr 1000]) (F' := [.inl f0]) ⟨fun _ => rfl, fun _ => rfl, fun _ => rfl, fun _ => rfl, fun _ => rfl, fun (h : zv_is (.inr 1000)) => (Nat.lt_irrefl 1000 h).elim, trivial⟩ ⟨fun _ => rfl, trivial⟩ ?_
              exact ih _ _ _ _ q h hK
            · rw [if_pos hc22] at h
              refine zv_con hB zd270_125 rfl ?_
              have hw : 0 = o := zi_rk (Option.some.inj h) hK
              subst hw
              exact hret _ _ _ _ _ zd270_126 (by constructor <;> decide) ⟨rfl, rfl, rfl⟩
          · rw [if_neg hc18] at h
            refine zv_ald hB zd270_63 rfl rfl rfl ?_
            refine zv_getr hB zd270_64 rfl ?_
            refine zv_ild hB zd270_67 rfl rfl ?_
            refine zv_iald hB zd270_69 rfl rfl (zi_ix_ok c5).1 (zi_ix_ok c5).2 (fun _ _ => ?_)
            refine zv_ald hB zd270_70 rfl rfl rfl ?_
            refine zv_getr hB zd270_71 rfl ?_
            refine zv_ild hB zd270_74 rfl rfl ?_
            refine zv_iald hB zd270_75 rfl rfl (zi_ix_ok c17).1 (zi_ix_ok c17).2 (fun _ _ => ?_)
            refine zv_cne hB zd270_76 rfl (fun hc23 => ?_) (fun hc23 => ?_)
            · rw [if_neg hc23] at h
              refine zv_con hB zd270_99 rfl ?_
              refine zv_ist hB zd270_100 rfl rfl rfl ?_
              refine zv_ild hB zd270_102 rfl rfl ?_
              refine zv_zeq hB zd270_104 rfl (fun _ => ?_) (fun hc => absurd hc (by decide))
              refine zv_iincw hB zd270_127 rfl rfl ?_
              refine zv_goto hB zd270_130 rfl ?_
              refine zv_wk hB (L' := [.inr 0, .inl x1, .inl x2, .inl x3, .inl (zi_w (x4 + 1)), .inr 1000]) (F' := [.inl f0]) ⟨fun _ => rfl, fun _ => rfl, fun _ => rfl, fun _ => rfl, fun _ => rfl, fun (h : zv_is (.inr 1000)) => (Nat.lt_irrefl 1000 h).elim, trivial⟩ ⟨fun _ => rfl, trivial⟩ ?_
              exact ih _ _ _ _ q h hK
            · rw [if_pos hc23] at h
              refine zv_ald hB zd270_79 rfl rfl rfl ?_
              refine zv_getr hB zd270_80 rfl ?_
              refine zv_ild hB zd270_83 rfl rfl ?_
              refine zv_iald hB zd270_85 rfl rfl (zi_ix_ok c5).1 (zi_ix_ok c5).2 (fun _ _ => ?_)
              refine zv_ald hB zd270_86 rfl rfl rfl ?_
              refine zv_getr hB zd270_87 rfl ?_
              refine zv_ild hB zd270_90 rfl rfl ?_
              refine zv_iald hB zd270_91 rfl rfl (zi_ix_ok c6).1 (zi_ix_ok c6).2 (fun _ _ => ?_)
              refine zv_cne hB zd270_92 rfl (fun hc25 => ?_) (fun hc25 => ?_)
              · rw [if_neg hc25] at h
                refine zv_con hB zd270_99 rfl ?_
                refine zv_ist hB zd270_100 rfl rfl rfl ?_
                refine zv_ild hB zd270_102 rfl rfl ?_
                refine zv_zeq hB zd270_104 rfl (fun _ => ?_) (fun hc => absurd hc (by decide))
                refine zv_iincw hB zd270_127 rfl rfl ?_
                refine zv_goto hB zd270_130 rfl ?_
                refine zv_wk hB (L' := [.inr 0, .inl x1, .inl x2, .inl x3, .inl (zi_w (x4 + 1)), .inr 1000]) (F' := [.inl f0]) ⟨fun _ => rfl, fun _ => rfl, fun _ => rfl, fun _ => rfl, fun _ => rfl, fun (h : zv_is (.inr 1000)) => (Nat.lt_irrefl 1000 h).elim, trivial⟩ ⟨fun _ => rfl, trivial⟩ ?_
                exact ih _ _ _ _ q h hK
              · rw [if_pos hc25] at h
                refine zv_con hB zd270_95 rfl ?_
                refine zv_goto hB zd270_96 rfl ?_
                refine zv_ist hB zd270_100 rfl rfl rfl ?_
                refine zv_ild hB zd270_102 rfl rfl ?_
                refine zv_zeq hB zd270_104 rfl (fun hc => absurd hc (by decide)) (fun _ => ?_)
                refine zv_ald hB zd270_107 rfl rfl rfl ?_
                refine zv_getr hB zd270_108 rfl ?_
                refine zv_ild hB zd270_111 rfl rfl ?_
                obtain ⟨c28, h⟩ := zi_if h
                refine zv_iald hB zd270_112 rfl rfl (zi_ix_ok c28).1 (zi_ix_ok c28).2 (fun _ _ => ?_)
                refine zv_ald hB zd270_113 rfl rfl rfl ?_
                refine zv_getr hB zd270_114 rfl ?_
                refine zv_ild hB zd270_117 rfl rfl ?_
                refine zv_iald hB zd270_118 rfl rfl (zi_ix_ok c6).1 (zi_ix_ok c6).2 (fun _ _ => ?_)
                obtain ⟨r29, hr29, h⟩ := zi_bind h
                refine zv_cs hB (zv_emq (va2 := [.inl (g4 x2), .inl (g0 x3)]) (F := [.inl f0]) (F' := [.inl f0]) (G := [g0, g1, g2, g3, g4]) (G' := [g0, g1, g2, g3, g4]) (ρ := []) (φ := []) (ψ := []) [none] [none, none, none, none, none] zyw_M_has zyw_M_canBe zye_M_canBe (by decide +kernel) (zt_M_has hr29) trivial trivial rfl rfl rfl rfl rfl rfl rfl) zd270_119 zxt204 rfl (by decide) (by decide) rfl ?_
                refine zv_zne hB zd270_122 rfl (fun hc30 => ?_) (fun hc30 => ?_)
                · rw [if_neg hc30] at h
                  refine zv_iincw hB zd270_127 rfl rfl ?_
                  refine zv_goto hB zd270_130 rfl ?_
                  refine zv_wk hB (L' := [.inr 0, .inl x1, .inl x2, .inl x3, .inl (zi_w (x4 + 1)), .inr 1000]) (F' := [.inl f0]) ⟨fun _ => rfl, fun _ => rfl, fun _ => rfl, fun _ => rfl, fun _ => rfl, fun (h : zv_is (.inr 1000)) => (Nat.lt_irrefl 1000 h).elim, trivial⟩ ⟨fun _ => rfl, trivial⟩ ?_
                  exact ih _ _ _ _ q h hK
                · rw [if_pos hc30] at h
                  refine zv_con hB zd270_125 rfl ?_
                  have hw : 0 = o := zi_rk (Option.some.inj h) hK
                  subst hw
                  exact hret _ _ _ _ _ zd270_126 (by constructor <;> decide) ⟨rfl, rfl, rfl⟩
  have l0 : ∀ (n : Nat) (x1 : Int) (x2 : Int) (x3 : Int) (q : ((Unit) ⊕ (Int))), zf_M_canBe_l0 x1 x2 f0 g0 g1 g2 g3 g4 n x3 = some q → (Sum.elim (fun e : Unit => good 139 [.inr 1000, .inr 1000, .inr 1000, .inr 1000, .inr 1000, .inr 1000] [] [.inl f0] [g0, g1, g2, g3, g4]) (fun w : Int => w = o) q) → good 2 [.inr 0, .inl x1, .inl x2, .inl x3, .inr 1000, .inr 1000] [] [.inl f0] [g0, g1, g2, g3, g4] := by
    intro n
    induction n with
    | zero => intro x1 x2 x3 q h; exact absurd (show none = some q from h) (fun h => by cases h)
    | succ n ih =>
      intro x1 x2 x3 q h hK
      replace h : zf_M_canBe_l0_b x1 x2 f0 g0 g1 g2 g3 g4 (zf_M_canBe_l0 x1 x2 f0 g0 g1 g2 g3 g4 n) x3 = some q := h
      unfold zf_M_canBe_l0_b at h
      refine zv_ild hB zd270_2 rfl rfl ?_
      refine zv_ild hB zd270_3 rfl rfl ?_
      refine zv_cge hB zd270_4 rfl (fun hc1 => ?_) (fun hc1 => ?_)
      · rw [if_neg (Int.not_lt.mpr hc1)] at h
        have hq := Option.some.inj h
        subst hq
        refine zv_wk hB (L' := [.inr 1000, .inr 1000, .inr 1000, .inr 1000, .inr 1000, .inr 1000]) (F' := [.inl f0]) ⟨fun (h : zv_is (.inr 1000)) => (Nat.lt_irrefl 1000 h).elim, fun (h : zv_is (.inr 1000)) => (Nat.lt_irrefl 1000 h).elim, fun (h : zv_is (.inr 1000)) => (Nat.lt_irrefl 1000 h).elim, fun (h : zv_is (.inr 1000)) => (Nat.lt_irrefl 1000 h).elim, fun (h : zv_is (.inr 1000)) => (Nat.lt_irrefl 1000 h).elim, fun (h : zv_is (.inr 1000)) => (Nat.lt_irrefl 1000 h).elim, trivial⟩ ⟨fun _ => rfl, trivial⟩ ?_
        exact hK
      · rw [if_pos hc1] at h
        refine zv_ald hB zd270_7 rfl rfl rfl ?_
        refine zv_getr hB zd270_8 rfl ?_
        refine zv_ild hB zd270_11 rfl rfl ?_
        obtain ⟨c2, h⟩ := zi_if h
        refine zv_iald hB zd270_12 rfl rfl (zi_ix_ok c2).1 (zi_ix_ok c2).2 (fun _ _ => ?_)
        refine zv_ild hB zd270_13 rfl rfl ?_
        refine zv_cne hB zd270_14 rfl (fun hc3 => ?_) (fun hc3 => ?_)
        · rw [if_neg hc3] at h
          refine zv_con hB zd270_19 rfl ?_
          refine zv_ist hB zd270_20 rfl rfl rfl ?_
          obtain ⟨q31, hq31, h⟩ := zi_bind h
          refine l1 _ _ _ _ _ q31 hq31 ?_
          rcases q31 with e32 | w33
          · replace h := zi_sl h
            show good 133 [.inr 0, .inl x1, .inl x2, .inl x3, .inr 1000, .inr 1000] [] [.inl f0] [g0, g1, g2, g3, g4]
            refine zv_iincw hB zd270_133 rfl rfl ?_
            refine zv_goto hB zd270_136 rfl ?_
            exact ih _ _ _ q h hK
          · exact zi_rk (Option.some.inj h) hK
        · rw [if_pos hc3] at h
          refine zv_con hB zd270_17 rfl ?_
          have hw : 0 = o := zi_rk (Option.some.inj h) hK
          subst hw
          exact hret _ _ _ _ _ zd270_18 (by constructor <;> decide) ⟨rfl, rfl, rfl⟩
  unfold zf_M_canBe at h
  refine zv_con hB zd270_0 rfl ?_
  refine zv_ist hB zd270_1 rfl rfl rfl ?_
  obtain ⟨q34, hq34, h⟩ := zi_bind h
  refine l0 _ _ _ _ q34 hq34 ?_
  rcases q34 with e35 | w36
  · replace h := zi_sl h
    show good 139 [.inr 1000, .inr 1000, .inr 1000, .inr 1000, .inr 1000, .inr 1000] [] [.inl f0] [g0, g1, g2, g3, g4]
    refine zv_con hB zd270_139 rfl ?_
    have hw := Option.some.inj h
    subst hw
    exact hret _ _ _ _ _ zd270_140 (by constructor <;> decide) ⟨rfl, rfl, rfl⟩
  · exact Option.some.inj h
/-! M_ways (I)I -/
-- names: 0 StarTalesModel('arg', 0), 1 (0, 8)(0, 12, 38), 2 (0, 8)(0, 12, 39), 3 (0, 12)(0, 12, 34), 4 (0, 12)(0, 12, 35), 5 (0, 24)(0, 12, 28), 6 (0, 8)(0, 12, 40)
-- fields: f0 = 0.nameMany_, f1 = 0.namesIn_, f2 = 0.seen0_, f3 = 0.taleLines_; arrays: g0 = 1, g1 = 2, g2 = 3, g3 = 4, g4 = 5, g5 = 6; out: [('ret', None), ('f', 0), ('g', 0), ('g', 1), ('g', 5)]
abbrev zy_M_ways : zNL := (7, [(0, 12)], [(0, 12, 41, 0), (0, 12, 33, 1), (0, 12, 27, 2), (0, 12, 31, 3)], [(0, 12, 38, 1), (0, 12, 39, 2), (0, 12, 34, 3), (0, 12, 35, 4), (0, 12, 28, 5), (0, 12, 40, 6)], [(1, 0, 8, 0), (2, 0, 8, 1), (3, 0, 12, 2), (4, 0, 12, 3), (5, 0, 24, 4), (6, 0, 8, 5)])
theorem zyw_M_ways : zv_wf zy_M_ways = true := by decide +kernel
theorem zye_M_ways : zv_ek2 zy_M_ways = true := by decide +kernel
def zf_M_ways_l1_b (x3 : Int) (f2 : Int) (f3 : Int) (g0 : (Int → Int)) (g1 : (Int → Int)) (g2 : (Int → Int)) (g3 : (Int → Int)) (g4 : (Int → Int)) (rec : Int → Option (Int)) (x4 : Int) : Option (Int) := if x4 < 24 then ((zf_M_has f2 x4).bind fun r6 => (if r6 = 0 then (rec (zi_w (x4 + 1))) else ((zf_M_canBe x3 x4 f3 g1 g2 g0 g3 g4).bind fun r8 => (if r8 = 0 then (rec (zi_w (x4 + 1))) else (some x4))))) else (some x4)
def zf_M_ways_l1 (x3 : Int) (f2 : Int) (f3 : Int) (g0 : (Int → Int)) (g1 : (Int → Int)) (g2 : (Int → Int)) (g3 : (Int → Int)) (g4 : (Int → Int)) : Nat → Int → Option (Int)
  | 0, _ => none
  | n + 1, x4 => zf_M_ways_l1_b x3 f2 f3 g0 g1 g2 g3 g4 (zf_M_ways_l1 x3 f2 f3 g0 g1 g2 g3 g4 n) x4
def zf_M_ways_l2_b (f0 : Int) (g0 : (Int → Int)) (g1 : (Int → Int)) (rec : Int → (Int → Int) → Option ((Int → Int))) (x5 : Int) (g5 : (Int → Int)) : Option ((Int → Int)) := if x5 < f0 then (cond (zi_ix x5 8) (cond (zi_ix (g0 x5) 8) (rec (zi_w (x5 + 1)) (zv_up g5 (g0 x5) (g1 x5))) none) none) else (some g5)
def zf_M_ways_l2 (f0 : Int) (g0 : (Int → Int)) (g1 : (Int → Int)) : Nat → Int → (Int → Int) → Option ((Int → Int))
  | 0, _, _ => none
  | n + 1, x5, g5 => zf_M_ways_l2_b f0 g0 g1 (zf_M_ways_l2 f0 g0 g1 n) x5 g5
def zf_M_ways_l0_b (x1 : Int) (f0 : Int) (f2 : Int) (f3 : Int) (g0 : (Int → Int)) (g2 : (Int → Int)) (g3 : (Int → Int)) (g4 : (Int → Int)) (rec : Int → Int → (Int → Int) → (Int → Int) → Option (Int × (Int → Int) × (Int → Int))) (x2 : Int) (x3 : Int) (g1 : (Int → Int)) (g5 : (Int → Int)) : Option (Int × (Int → Int) × (Int → Int)) := if x3 < 0 then (some (x2, g1, g5)) else (if x2 < x1 then (cond (zi_ix x3 8) ((zf_M_ways_l1 x3 f2 f3 g0 g1 g2 g3 g4 zi_fu (zi_w ((g1 x3) + 1))).bind fun q10 => (if q10 = 24 then (rec x2 (zi_w (x3 - 1)) g1 g5) else (if (zi_w (x3 + 1)) < f0 then (cond (zi_ix (zi_w (x3 + 1)) 8) (rec x2 (zi_w (x3 + 1)) (zv_up (zv_up g1 x3 q10) (zi_w (x3 + 1)) (-1)) g5) none) else (if x2 = 0 then ((zf_M_ways_l2 f0 g0 (zv_up g1 x3 q10) zi_fu 0 g5).bind fun q17 => (rec (zi_w (x2 + 1)) x3 (zv_up g1 x3 q10) q17)) else (rec (zi_w (x2 + 1)) x3 (zv_up g1 x3 q10) g5))))) none) else (some (x2, g1, g5)))
def zf_M_ways_l0 (x1 : Int) (f0 : Int) (f2 : Int) (f3 : Int) (g0 : (Int → Int)) (g2 : (Int → Int)) (g3 : (Int → Int)) (g4 : (Int → Int)) : Nat → Int → Int → (Int → Int) → (Int → Int) → Option (Int × (Int → Int) × (Int → Int))
  | 0, _, _, _, _ => none
  | n + 1, x2, x3, g1, g5 => zf_M_ways_l0_b x1 f0 f2 f3 g0 g2 g3 g4 (zf_M_ways_l0 x1 f0 f2 f3 g0 g2 g3 g4 n) x2 x3 g1 g5
def zf_M_ways (x1 : Int) (f0 : Int) (f1 : Int) (f2 : Int) (f3 : Int) (g0 : (Int → Int)) (g1 : (Int → Int)) (g2 : (Int → Int)) (g3 : (Int → Int)) (g4 : (Int → Int)) (g5 : (Int → Int)) : Option (Int × Int × (Int → Int) × (Int → Int) × (Int → Int)) := (zf_M_laysNames f0 f1 g0).bind fun r1 => ((zf_M_ways_l0 x1 r1.1 f2 f3 r1.2 g2 g3 g4 zi_fu 0 0 (zv_up g1 0 (-1)) g5).bind fun q19 => (some (q19.1, r1.1, r1.2, q19.2.1, q19.2.2)))
theorem zd268_0 : decode zxm268.2.1 0 = .ok (.aload_n 0, 1) := by decide +kernel
theorem zd268_1 : decode zxm268.2.1 1 = .ok (.invokevirtual 360, 3) := by decide +kernel
theorem zd268_4 : decode zxm268.2.1 4 = .ok (.iconst 0, 1) := by decide +kernel
theorem zd268_5 : decode zxm268.2.1 5 = .ok (.istore_n 2, 1) := by decide +kernel
theorem zd268_6 : decode zxm268.2.1 6 = .ok (.iconst 0, 1) := by decide +kernel
theorem zd268_7 : decode zxm268.2.1 7 = .ok (.istore_n 3, 1) := by decide +kernel
theorem zd268_8 : decode zxm268.2.1 8 = .ok (.aload_n 0, 1) := by decide +kernel
theorem zd268_9 : decode zxm268.2.1 9 = .ok (.getfield 80, 3) := by decide +kernel
theorem zd268_12 : decode zxm268.2.1 12 = .ok (.iconst 0, 1) := by decide +kernel
theorem zd268_13 : decode zxm268.2.1 13 = .ok (.iconst (-1), 1) := by decide +kernel
theorem zd268_14 : decode zxm268.2.1 14 = .ok (.iastore, 1) := by decide +kernel
theorem zd268_15 : decode zxm268.2.1 15 = .ok (.iload_n 3, 1) := by decide +kernel
theorem zd268_16 : decode zxm268.2.1 16 = .ok (.ifCond .lt 150, 3) := by decide +kernel
theorem zd268_19 : decode zxm268.2.1 19 = .ok (.iload_n 2, 1) := by decide +kernel
theorem zd268_20 : decode zxm268.2.1 20 = .ok (.iload_n 1, 1) := by decide +kernel
theorem zd268_21 : decode zxm268.2.1 21 = .ok (.if_icmp .ge 145, 3) := by decide +kernel
theorem zd268_24 : decode zxm268.2.1 24 = .ok (.aload_n 0, 1) := by decide +kernel
theorem zd268_25 : decode zxm268.2.1 25 = .ok (.getfield 80, 3) := by decide +kernel
theorem zd268_28 : decode zxm268.2.1 28 = .ok (.iload_n 3, 1) := by decide +kernel
theorem zd268_29 : decode zxm268.2.1 29 = .ok (.iaload, 1) := by decide +kernel
theorem zd268_30 : decode zxm268.2.1 30 = .ok (.iconst 1, 1) := by decide +kernel
theorem zd268_31 : decode zxm268.2.1 31 = .ok (.iadd, 1) := by decide +kernel
theorem zd268_32 : decode zxm268.2.1 32 = .ok (.istore 4, 2) := by decide +kernel
theorem zd268_34 : decode zxm268.2.1 34 = .ok (.iload 4, 2) := by decide +kernel
theorem zd268_36 : decode zxm268.2.1 36 = .ok (.bipush 24, 2) := by decide +kernel
theorem zd268_38 : decode zxm268.2.1 38 = .ok (.if_icmp .ge 34, 3) := by decide +kernel
theorem zd268_41 : decode zxm268.2.1 41 = .ok (.aload_n 0, 1) := by decide +kernel
theorem zd268_42 : decode zxm268.2.1 42 = .ok (.getfield 303, 3) := by decide +kernel
theorem zd268_45 : decode zxm268.2.1 45 = .ok (.iload 4, 2) := by decide +kernel
theorem zd268_47 : decode zxm268.2.1 47 = .ok (.invokestatic 138, 3) := by decide +kernel
theorem zd268_50 : decode zxm268.2.1 50 = .ok (.ifCond .eq 13, 3) := by decide +kernel
theorem zd268_53 : decode zxm268.2.1 53 = .ok (.aload_n 0, 1) := by decide +kernel
theorem zd268_54 : decode zxm268.2.1 54 = .ok (.iload_n 3, 1) := by decide +kernel
theorem zd268_55 : decode zxm268.2.1 55 = .ok (.iload 4, 2) := by decide +kernel
theorem zd268_57 : decode zxm268.2.1 57 = .ok (.invokevirtual 363, 3) := by decide +kernel
theorem zd268_60 : decode zxm268.2.1 60 = .ok (.ifCond .ne 12, 3) := by decide +kernel
theorem zd268_63 : decode zxm268.2.1 63 = .ok (.iload 4, 2) := by decide +kernel
theorem zd268_65 : decode zxm268.2.1 65 = .ok (.iconst 1, 1) := by decide +kernel
theorem zd268_66 : decode zxm268.2.1 66 = .ok (.iadd, 1) := by decide +kernel
theorem zd268_67 : decode zxm268.2.1 67 = .ok (.istore 4, 2) := by decide +kernel
theorem zd268_69 : decode zxm268.2.1 69 = .ok (.goto (-35), 3) := by decide +kernel
theorem zd268_72 : decode zxm268.2.1 72 = .ok (.iload 4, 2) := by decide +kernel
theorem zd268_74 : decode zxm268.2.1 74 = .ok (.bipush 24, 2) := by decide +kernel
theorem zd268_76 : decode zxm268.2.1 76 = .ok (.if_icmp .ne 10, 3) := by decide +kernel
theorem zd268_79 : decode zxm268.2.1 79 = .ok (.iload_n 3, 1) := by decide +kernel
theorem zd268_80 : decode zxm268.2.1 80 = .ok (.iconst 1, 1) := by decide +kernel
theorem zd268_81 : decode zxm268.2.1 81 = .ok (.isub, 1) := by decide +kernel
theorem zd268_82 : decode zxm268.2.1 82 = .ok (.istore_n 3, 1) := by decide +kernel
theorem zd268_83 : decode zxm268.2.1 83 = .ok (.goto (-68), 3) := by decide +kernel
theorem zd268_86 : decode zxm268.2.1 86 = .ok (.aload_n 0, 1) := by decide +kernel
theorem zd268_87 : decode zxm268.2.1 87 = .ok (.getfield 80, 3) := by decide +kernel
theorem zd268_90 : decode zxm268.2.1 90 = .ok (.iload_n 3, 1) := by decide +kernel
theorem zd268_91 : decode zxm268.2.1 91 = .ok (.iload 4, 2) := by decide +kernel
theorem zd268_93 : decode zxm268.2.1 93 = .ok (.iastore, 1) := by decide +kernel
theorem zd268_94 : decode zxm268.2.1 94 = .ok (.iload_n 3, 1) := by decide +kernel
theorem zd268_95 : decode zxm268.2.1 95 = .ok (.iconst 1, 1) := by decide +kernel
theorem zd268_96 : decode zxm268.2.1 96 = .ok (.iadd, 1) := by decide +kernel
theorem zd268_97 : decode zxm268.2.1 97 = .ok (.aload_n 0, 1) := by decide +kernel
theorem zd268_98 : decode zxm268.2.1 98 = .ok (.getfield 357, 3) := by decide +kernel
theorem zd268_101 : decode zxm268.2.1 101 = .ok (.if_icmp .ge 17, 3) := by decide +kernel
theorem zd268_104 : decode zxm268.2.1 104 = .ok (.iload_n 3, 1) := by decide +kernel
theorem zd268_105 : decode zxm268.2.1 105 = .ok (.iconst 1, 1) := by decide +kernel
theorem zd268_106 : decode zxm268.2.1 106 = .ok (.iadd, 1) := by decide +kernel
theorem zd268_107 : decode zxm268.2.1 107 = .ok (.istore_n 3, 1) := by decide +kernel
theorem zd268_108 : decode zxm268.2.1 108 = .ok (.aload_n 0, 1) := by decide +kernel
theorem zd268_109 : decode zxm268.2.1 109 = .ok (.getfield 80, 3) := by decide +kernel
theorem zd268_112 : decode zxm268.2.1 112 = .ok (.iload_n 3, 1) := by decide +kernel
theorem zd268_113 : decode zxm268.2.1 113 = .ok (.iconst (-1), 1) := by decide +kernel
theorem zd268_114 : decode zxm268.2.1 114 = .ok (.iastore, 1) := by decide +kernel
theorem zd268_115 : decode zxm268.2.1 115 = .ok (.goto (-100), 3) := by decide +kernel
theorem zd268_118 : decode zxm268.2.1 118 = .ok (.iload_n 2, 1) := by decide +kernel
theorem zd268_119 : decode zxm268.2.1 119 = .ok (.ifCond .ne 40, 3) := by decide +kernel
theorem zd268_122 : decode zxm268.2.1 122 = .ok (.iconst 0, 1) := by decide +kernel
theorem zd268_123 : decode zxm268.2.1 123 = .ok (.istore 5, 2) := by decide +kernel
theorem zd268_125 : decode zxm268.2.1 125 = .ok (.iload 5, 2) := by decide +kernel
theorem zd268_127 : decode zxm268.2.1 127 = .ok (.aload_n 0, 1) := by decide +kernel
theorem zd268_128 : decode zxm268.2.1 128 = .ok (.getfield 357, 3) := by decide +kernel
theorem zd268_131 : decode zxm268.2.1 131 = .ok (.if_icmp .ge 28, 3) := by decide +kernel
theorem zd268_134 : decode zxm268.2.1 134 = .ok (.aload_n 0, 1) := by decide +kernel
theorem zd268_135 : decode zxm268.2.1 135 = .ok (.getfield 83, 3) := by decide +kernel
theorem zd268_138 : decode zxm268.2.1 138 = .ok (.aload_n 0, 1) := by decide +kernel
theorem zd268_139 : decode zxm268.2.1 139 = .ok (.getfield 77, 3) := by decide +kernel
theorem zd268_142 : decode zxm268.2.1 142 = .ok (.iload 5, 2) := by decide +kernel
theorem zd268_144 : decode zxm268.2.1 144 = .ok (.iaload, 1) := by decide +kernel
theorem zd268_145 : decode zxm268.2.1 145 = .ok (.aload_n 0, 1) := by decide +kernel
theorem zd268_146 : decode zxm268.2.1 146 = .ok (.getfield 80, 3) := by decide +kernel
theorem zd268_149 : decode zxm268.2.1 149 = .ok (.iload 5, 2) := by decide +kernel
theorem zd268_151 : decode zxm268.2.1 151 = .ok (.iaload, 1) := by decide +kernel
theorem zd268_152 : decode zxm268.2.1 152 = .ok (.iastore, 1) := by decide +kernel
theorem zd268_153 : decode zxm268.2.1 153 = .ok (.iinc 5 1, 3) := by decide +kernel
theorem zd268_156 : decode zxm268.2.1 156 = .ok (.goto (-31), 3) := by decide +kernel
theorem zd268_159 : decode zxm268.2.1 159 = .ok (.iload_n 2, 1) := by decide +kernel
theorem zd268_160 : decode zxm268.2.1 160 = .ok (.iconst 1, 1) := by decide +kernel
theorem zd268_161 : decode zxm268.2.1 161 = .ok (.iadd, 1) := by decide +kernel
theorem zd268_162 : decode zxm268.2.1 162 = .ok (.istore_n 2, 1) := by decide +kernel
theorem zd268_163 : decode zxm268.2.1 163 = .ok (.goto (-148), 3) := by decide +kernel
theorem zd268_166 : decode zxm268.2.1 166 = .ok (.iload_n 2, 1) := by decide +kernel
theorem zd268_167 : decode zxm268.2.1 167 = .ok (.ireturn, 1) := by decide +kernel
theorem zt_M_ways {x1 : Int} {f0 : Int} {f1 : Int} {f2 : Int} {f3 : Int} {g0 : (Int → Int)} {g1 : (Int → Int)} {g2 : (Int → Int)} {g3 : (Int → Int)} {g4 : (Int → Int)} {g5 : (Int → Int)} {o : Int × Int × (Int → Int) × (Int → Int) × (Int → Int)} (h : zf_M_ways x1 f0 f1 f2 f3 g0 g1 g2 g3 g4 g5 = some o) : zv_Fn z_TB z_cl z_KX zy_M_ways zxm268 (2, 120) [.inr 0, .inl x1] [.inl f0, .inl f1, .inl f2, .inl f3] [g0, g1, g2, g3, g4, g5] (some o.1) [.inl o.2.1, .inl f1, .inl f2, .inl f3] [o.2.2.1, o.2.2.2.1, g2, g3, g4, o.2.2.2.2] := zv_meth (K := (z_KF13, z_KC13, z_KL13, z_KT13, [], [], [], none)) (FT := z_FT) (MT := z_MT) (n := 2) zxp268 (z_ks13 _ (fun _ h => List.mem_cons_of_mem _ h) _ _ _ _ (fun j r h _ => by cases h)) (fun _ _ => zs_KX_p) zyw_M_ways (fun va F G h => by obtain ⟨rfl, _⟩ := h; rfl) (fun va F G h => by obtain ⟨rfl, _⟩ := h; rfl) rfl fun good va F G hB hret hvret hP => by
  obtain ⟨rfl, rfl, rfl⟩ := hP
  have l1 : ∀ (n : Nat) (x1 : Int) (x2 : Int) (x3 : Int) (x4 : Int) (f0 : Int) (g0 : (Int → Int)) (g1 : (Int → Int)) (g5 : (Int → Int)) (q : Int), zf_M_ways_l1 x3 f2 f3 g0 g1 g2 g3 g4 n x4 = some q → (good 72 [.inr 0, .inl x1, .inl x2, .inl x3, .inl q, .inr 1000] [] [.inl f0, .inl f1, .inl f2, .inl f3] [g0, g1, g2, g3, g4, g5]) → good 34 [.inr 0, .inl x1, .inl x2, .inl x3, .inl x4, .inr 1000] [] [.inl f0, .inl f1, .inl f2, .inl f3] [g0, g1, g2, g3, g4, g5] := by
    intro n
    induction n with
    | zero => intro x1 x2 x3 x4 f0 g0 g1 g5 q h; exact absurd (show none = some q from h) (fun h => by cases h)
    | succ n ih =>
      intro x1 x2 x3 x4 f0 g0 g1 g5 q h hK
      replace h : zf_M_ways_l1_b x3 f2 f3 g0 g1 g2 g3 g4 (zf_M_ways_l1 x3 f2 f3 g0 g1 g2 g3 g4 n) x4 = some q := h
      unfold zf_M_ways_l1_b at h
      refine zv_ild hB zd268_34 rfl rfl ?_
      refine zv_con hB zd268_36 rfl ?_
      refine zv_cge hB zd268_38 rfl (fun hc5 => ?_) (fun hc5 => ?_)
      · rw [if_neg (Int.not_lt.mpr hc5)] at h
        have hq := Option.some.inj h
        subst hq
        exact hK
      · rw [if_pos hc5] at h
        refine zv_ald hB zd268_41 rfl rfl rfl ?_
        refine zv_getf hB zd268_42 rfl rfl (fun _ _ => ?_)
        refine zv_ild hB zd268_45 rfl rfl ?_
        obtain ⟨r6, hr6, h⟩ := zi_bind h
        refine zv_cs hB (zv_emq (va2 := [.inl f2, .inl x4]) (F := [.inl f0, .inl f1, .inl f2, .inl f3]) (F' := [.inl f0, .inl f1, .inl f2, .inl f3]) (G := [g0, g1, g2, g3, g4, g5]) (G' := [g0, g1, g2, g3, g4, g5]) (ρ := []) (φ := []) (ψ := []) [none, none, none, none] [none, none, none, none, none, none] zyw_M_has zyw_M_ways zye_M_ways (by decide +kernel) (zt_M_has hr6) trivial trivial rfl rfl rfl rfl rfl rfl rfl) zd268_47 zxt204 rfl (by decide) (by decide) rfl ?_
        refine zv_zeq hB zd268_50 rfl (fun hc7 => ?_) (fun hc7 => ?_)
        · rw [if_pos hc7] at h
          refine zv_ild hB zd268_63 rfl rfl ?_
          refine zv_con hB zd268_65 rfl ?_
          refine zv_addw hB zd268_66 ?_
          refine zv_ist hB zd268_67 rfl rfl rfl ?_
          refine zv_goto hB zd268_69 rfl ?_
          exact ih _ _ _ _ _ _ _ _ q h hK
        · rw [if_neg hc7] at h
          refine zv_ald hB zd268_53 rfl rfl rfl ?_
          refine zv_ild hB zd268_54 rfl rfl ?_
          refine zv_ild hB zd268_55 rfl rfl ?_
          obtain ⟨r8, hr8, h⟩ := zi_bind h
          refine zv_cv hB (zv_emq (va2 := [.inr 0, .inl x3, .inl x4]) (F := [.inl f0, .inl f1, .inl f2, .inl f3]) (F' := [.inl f0, .inl f1, .inl f2, .inl f3]) (G := [g0, g1, g2, g3, g4, g5]) (G' := [g0, g1, g2, g3, g4, g5]) (ρ := [0, 2, 3, 1, 4, 5]) (φ := [3]) (ψ := [1, 2, 0, 3, 4]) [none, none, none, some 0] [some 2, some 0, some 1, some 3, some 4, none] zyw_M_canBe zyw_M_ways zye_M_ways (by decide +kernel) (zt_M_canBe hr8) ⟨⟨_, rfl, fun _ => rfl⟩, trivial⟩ ⟨rfl, rfl, rfl, rfl, rfl, trivial⟩ rfl rfl rfl rfl rfl rfl rfl) zd268_57 zxt270 rfl (by decide) (by decide) rfl ?_
          refine zv_zne hB zd268_60 rfl (fun hc9 => ?_) (fun hc9 => ?_)
          · rw [if_neg hc9] at h
            have hq := Option.some.inj h
            subst hq
            exact hK
          · rw [if_pos hc9] at h
            refine zv_ild hB zd268_63 rfl rfl ?_
            refine zv_con hB zd268_65 rfl ?_
            refine zv_addw hB zd268_66 ?_
            refine zv_ist hB zd268_67 rfl rfl rfl ?_
            refine zv_goto hB zd268_69 rfl ?_
            exact ih _ _ _ _ _ _ _ _ q h hK
  have l2 : ∀ (n : Nat) (x1 : Int) (x2 : Int) (x3 : Int) (x5 : Int) (f0 : Int) (g0 : (Int → Int)) (g1 : (Int → Int)) (g5 : (Int → Int)) (q : (Int → Int)), zf_M_ways_l2 f0 g0 g1 n x5 g5 = some q → (good 159 [.inr 0, .inl x1, .inl x2, .inl x3, .inr 1000, .inr 1000] [] [.inl f0, .inl f1, .inl f2, .inl f3] [g0, g1, g2, g3, g4, q]) → good 125 [.inr 0, .inl x1, .inl x2, .inl x3, .inr 1000, .inl x5] [] [.inl f0, .inl f1, .inl f2, .inl f3] [g0, g1, g2, g3, g4, g5] := by
    intro n
    induction n with
    | zero => intro x1 x2 x3 x5 f0 g0 g1 g5 q h; exact absurd (show none = some q from h) (fun h => by cases h)
    | succ n ih =>
      intro x1 x2 x3 x5 f0 g0 g1 g5 q h hK
      replace h : zf_M_ways_l2_b f0 g0 g1 (zf_M_ways_l2 f0 g0 g1 n) x5 g5 = some q := h
      unfold zf_M_ways_l2_b at h
      refine zv_ild hB zd268_125 rfl rfl ?_
      refine zv_ald hB zd268_127 rfl rfl rfl ?_
      refine zv_getf hB zd268_128 rfl rfl (fun _ _ => ?_)
      refine zv_cge hB zd268_131 rfl (fun hc14 => ?_) (fun hc14 => ?_)
      · rw [if_neg (Int.not_lt.mpr hc14)] at h
        have hq := Option.some.inj h
        subst hq
        refine zv_wk hB (L' := [.inr 0, .inl x1, .inl x2, .inl x3, .inr 1000, .inr 1000]) (F' := [.inl f0, .inl f1, .inl f2, .inl f3]) ⟨fun _ => rfl, fun _ => rfl, fun _ => rfl, fun _ => rfl, fun (h : zv_is (.inr 1000)) => (Nat.lt_irrefl 1000 h).elim, fun (h : zv_is (.inr 1000)) => (Nat.lt_irrefl 1000 h).elim, trivial⟩ ⟨fun _ => rfl, fun _ => rfl, fun _ => rfl, fun _ => rfl, trivial⟩ ?_
        exact hK
      · rw [if_pos hc14] at h
        refine zv_ald hB zd268_134 rfl rfl rfl ?_
        refine zv_getr hB zd268_135 rfl ?_
        refine zv_ald hB zd268_138 rfl rfl rfl ?_
        refine zv_getr hB zd268_139 rfl ?_
        refine zv_ild hB zd268_142 rfl rfl ?_
        obtain ⟨c15, h⟩ := zi_if h
        refine zv_iald hB zd268_144 rfl rfl (zi_ix_ok c15).1 (zi_ix_ok c15).2 (fun _ _ => ?_)
        refine zv_ald hB zd268_145 rfl rfl rfl ?_
        refine zv_getr hB zd268_146 rfl ?_
        refine zv_ild hB zd268_149 rfl rfl ?_
        refine zv_iald hB zd268_151 rfl rfl (zi_ix_ok c15).1 (zi_ix_ok c15).2 (fun _ _ => ?_)
        obtain ⟨c16, h⟩ := zi_if h
        refine zv_iast hB zd268_152 rfl rfl (zi_ix_ok c16).1 (zi_ix_ok c16).2 ?_
        refine zv_iincw hB zd268_153 rfl rfl ?_
        refine zv_goto hB zd268_156 rfl ?_
        exact ih _ _ _ _ _ _ _ _ q h hK
  have l0 : ∀ (n : Nat) (x1 : Int) (x2 : Int) (x3 : Int) (f0 : Int) (g0 : (Int → Int)) (g1 : (Int → Int)) (g5 : (Int → Int)) (q : Int × (Int → Int) × (Int → Int)), zf_M_ways_l0 x1 f0 f2 f3 g0 g2 g3 g4 n x2 x3 g1 g5 = some q → (good 166 [.inr 1000, .inr 1000, .inl q.1, .inr 1000, .inr 1000, .inr 1000] [] [.inl f0, .inl f1, .inl f2, .inl f3] [g0, q.2.1, g2, g3, g4, q.2.2]) → good 15 [.inr 0, .inl x1, .inl x2, .inl x3, .inr 1000, .inr 1000] [] [.inl f0, .inl f1, .inl f2, .inl f3] [g0, g1, g2, g3, g4, g5] := by
    intro n
    induction n with
    | zero => intro x1 x2 x3 f0 g0 g1 g5 q h; exact absurd (show none = some q from h) (fun h => by cases h)
    | succ n ih =>
      intro x1 x2 x3 f0 g0 g1 g5 q h hK
      replace h : zf_M_ways_l0_b x1 f0 f2 f3 g0 g2 g3 g4 (zf_M_ways_l0 x1 f0 f2 f3 g0 g2 g3 g4 n) x2 x3 g1 g5 = some q := h
      unfold zf_M_ways_l0_b at h
      refine zv_ild hB zd268_15 rfl rfl ?_
      refine zv_zlt hB zd268_16 rfl (fun hc2 => ?_) (fun hc2 => ?_)
      · rw [if_pos hc2] at h
        have hq := Option.some.inj h
        subst hq
        refine zv_wk hB (L' := [.inr 1000, .inr 1000, .inl x2, .inr 1000, .inr 1000, .inr 1000]) (F' := [.inl f0, .inl f1, .inl f2, .inl f3]) ⟨fun (h : zv_is (.inr 1000)) => (Nat.lt_irrefl 1000 h).elim, fun (h : zv_is (.inr 1000)) => (Nat.lt_irrefl 1000 h).elim, fun _ => rfl, fun (h : zv_is (.inr 1000)) => (Nat.lt_irrefl 1000 h).elim, fun (h : zv_is (.inr 1000)) => (Nat.lt_irrefl 1000 h).elim, fun (h : zv_is (.inr 1000)) => (Nat.lt_irrefl 1000 h).elim, trivial⟩ ⟨fun _ => rfl, fun _ => rfl, fun _ => rfl, fun _ => rfl, trivial⟩ ?_
        exact hK
      · rw [if_neg (Int.not_lt.mpr hc2)] at h
        refine zv_ild hB zd268_19 rfl rfl ?_
        refine zv_ild hB zd268_20 rfl rfl ?_
        refine zv_cge hB zd268_21 rfl (fun hc3 => ?_) (fun hc3 => ?_)
        · rw [if_neg (Int.not_lt.mpr hc3)] at h
          have hq := Option.some.inj h
          subst hq
          refine zv_wk hB (L' := [.inr 1000, .inr 1000, .inl x2, .inr 1000, .inr 1000, .inr 1000]) (F' := [.inl f0, .inl f1, .inl f2, .inl f3]) ⟨fun (h : zv_is (.inr 1000)) => (Nat.lt_irrefl 1000 h).elim, fun (h : zv_is (.inr 1000)) => (Nat.lt_irrefl 1000 h).elim, fun _ => rfl, fun (h : zv_is (.inr 1000)) => (Nat.lt_irrefl 1000 h).elim, fun (h : zv_is (.inr 1000)) => (Nat.lt_irrefl 1000 h).elim, fun (h : zv_is (.inr 1000)) => (Nat.lt_irrefl 1000 h).elim, trivial⟩ ⟨fun _ => rfl, fun _ => rfl, fun _ => rfl, fun _ => rfl, trivial⟩ ?_
          exact hK
        · rw [if_pos hc3] at h
          refine zv_ald hB zd268_24 rfl rfl rfl ?_
          refine zv_getr hB zd268_25 rfl ?_
          refine zv_ild hB zd268_28 rfl rfl ?_
          obtain ⟨c4, h⟩ := zi_if h
          refine zv_iald hB zd268_29 rfl rfl (zi_ix_ok c4).1 (zi_ix_ok c4).2 (fun _ _ => ?_)
          refine zv_con hB zd268_30 rfl ?_
          refine zv_addw hB zd268_31 ?_
          refine zv_ist hB zd268_32 rfl rfl rfl ?_
          obtain ⟨q10, hq10, h⟩ := zi_bind h
          refine l1 _ _ _ _ _ _ _ _ _ q10 hq10 ?_
          show good 72 [.inr 0, .inl x1, .inl x2, .inl x3, .inl q10, .inr 1000] [] [.inl f0, .inl f1, .inl f2, .inl f3] [g0, g1, g2, g3, g4, g5]
          refine zv_ild hB zd268_72 rfl rfl ?_
          refine zv_con hB zd268_74 rfl ?_
          refine zv_cne hB zd268_76 rfl (fun hc11 => ?_) (fun hc11 => ?_)
          · rw [if_neg hc11] at h
            refine zv_ald hB zd268_86 rfl rfl rfl ?_
            refine zv_getr hB zd268_87 rfl ?_
            refine zv_ild hB zd268_90 rfl rfl ?_
            refine zv_ild hB zd268_91 rfl rfl ?_
            refine zv_iast hB zd268_93 rfl rfl (zi_ix_ok c4).1 (zi_ix_ok c4).2 ?_
            refine zv_ild hB zd268_94 rfl rfl ?_
            refine zv_con hB zd268_95 rfl ?_
            refine zv_addw hB zd268_96 ?_
            refine zv_ald hB zd268_97 rfl rfl rfl ?_
            refine zv_getf hB zd268_98 rfl rfl (fun _ _ => ?_)
            refine zv_cge hB zd268_101 rfl (fun hc12 => ?_) (fun hc12 => ?_)
            · rw [if_neg (Int.not_lt.mpr hc12)] at h
              refine zv_ild hB zd268_118 rfl rfl ?_
              refine zv_zne hB zd268_119 rfl (fun hc13 => ?_) (fun hc13 => ?_)
              · rw [if_neg hc13] at h
                refine zv_ild hB zd268_159 rfl rfl ?_
                refine zv_con hB zd268_160 rfl ?_
                refine zv_addw hB zd268_161 ?_
                refine zv_ist hB zd268_162 rfl rfl rfl ?_
                refine zv_goto hB zd268_163 rfl ?_
                refine zv_wk hB (L' := [.inr 0, .inl x1, .inl (zi_w (x2 + 1)), .inl x3, .inr 1000, .inr 1000]) (F' := [.inl f0, .inl f1, .inl f2, .inl f3]) ⟨fun _ => rfl, fun _ => rfl, fun _ => rfl, fun _ => rfl, fun (h : zv_is (.inr 1000)) => (Nat.lt_irrefl 1000 h).elim, fun (h : zv_is (.inr 1000)) => (Nat.lt_irrefl 1000 h).elim, trivial⟩ ⟨fun _ => rfl, fun _ => rfl, fun _ => rfl, fun _ => rfl, trivial⟩ ?_
                exact ih _ _ _ _ _ _ _ q h hK
              · rw [if_pos hc13] at h
                refine zv_con hB zd268_122 rfl ?_
                refine zv_ist hB zd268_123 rfl rfl rfl ?_
                obtain ⟨q17, hq17, h⟩ := zi_bind h
                refine zv_wk hB (L' := [.inr 0, .inl x1, .inl x2, .inl x3, .inr 1000, .inl 0]) (F' := [.inl f0, .inl f1, .inl f2, .inl f3]) ⟨fun _ => rfl, fun _ => rfl, fun _ => rfl, fun _ => rfl, fun (h : zv_is (.inr 1000)) => (Nat.lt_irrefl 1000 h).elim, fun _ => rfl, trivial⟩ ⟨fun _ => rfl, fun _ => rfl, fun _ => rfl, fun _ => rfl, trivial⟩ ?_
                refine l2 _ _ _ _ _ _ _ _ _ q17 hq17 ?_
                show good 159 [.inr 0, .inl x1, .inl x2, .inl x3, .inr 1000, .inr 1000] [] [.inl f0, .inl f1, .inl f2, .inl f3] [g0, (zv_up g1 x3 q10), g2, g3, g4, q17]
                refine zv_ild hB zd268_159 rfl rfl ?_
                refine zv_con hB zd268_160 rfl ?_
                refine zv_addw hB zd268_161 ?_
                refine zv_ist hB zd268_162 rfl rfl rfl ?_
                refine zv_goto hB zd268_163 rfl ?_
                exact ih _ _ _ _ _ _ _ q h hK
            · rw [if_pos hc12] at h
              refine zv_ild hB zd268_104 rfl rfl ?_
              refine zv_con hB zd268_105 rfl ?_
              refine zv_addw hB zd268_106 ?_
              refine zv_ist hB zd268_107 rfl rfl rfl ?_
              refine zv_ald hB zd268_108 rfl rfl rfl ?_
              refine zv_getr hB zd268_109 rfl ?_
              refine zv_ild hB zd268_112 rfl rfl ?_
              refine zv_con hB zd268_113 rfl ?_
              obtain ⟨c18, h⟩ := zi_if h
              refine zv_iast hB zd268_114 rfl rfl (zi_ix_ok c18).1 (zi_ix_ok c18).2 ?_
              refine zv_goto hB zd268_115 rfl ?_
              refine zv_wk hB (L' := [.inr 0, .inl x1, .inl x2, .inl (zi_w (x3 + 1)), .inr 1000, .inr 1000]) (F' := [.inl f0, .inl f1, .inl f2, .inl f3]) ⟨fun _ => rfl, fun _ => rfl, fun _ => rfl, fun _ => rfl, fun (h : zv_is (.inr 1000)) => (Nat.lt_irrefl 1000 h).elim, fun (h : zv_is (.inr 1000)) => (Nat.lt_irrefl 1000 h).elim, trivial⟩ ⟨fun _ => rfl, fun _ => rfl, fun _ => rfl, fun _ => rfl, trivial⟩ ?_
              exact ih _ _ _ _ _ _ _ q h hK
          · rw [if_pos hc11] at h
            refine zv_ild hB zd268_79 rfl rfl ?_
            refine zv_con hB zd268_80 rfl ?_
            refine zv_subw hB zd268_81 ?_
            refine zv_ist hB zd268_82 rfl rfl rfl ?_
            refine zv_goto hB zd268_83 rfl ?_
            refine zv_wk hB (L' := [.inr 0, .inl x1, .inl x2, .inl (zi_w (x3 - 1)), .inr 1000, .inr 1000]) (F' := [.inl f0, .inl f1, .inl f2, .inl f3]) ⟨fun _ => rfl, fun _ => rfl, fun _ => rfl, fun _ => rfl, fun (h : zv_is (.inr 1000)) => (Nat.lt_irrefl 1000 h).elim, fun (h : zv_is (.inr 1000)) => (Nat.lt_irrefl 1000 h).elim, trivial⟩ ⟨fun _ => rfl, fun _ => rfl, fun _ => rfl, fun _ => rfl, trivial⟩ ?_
            exact ih _ _ _ _ _ _ _ q h hK
  unfold zf_M_ways at h
  refine zv_ald hB zd268_0 rfl rfl rfl ?_
  obtain ⟨r1, hr1, h⟩ := zi_bind h
  refine zv_cv hB (zv_emq (va2 := [.inr 0]) (F := [.inl f0, .inl f1, .inl f2, .inl f3]) (F' := [.inl r1.1, .inl f1, .inl f2, .inl f3]) (G := [g0, g1, g2, g3, g4, g5]) (G' := [r1.2, g1, g2, g3, g4, g5]) (ρ := [0, 1]) (φ := [0, 1]) (ψ := [0]) [some 0, some 1, none, none] [some 0, none, none, none, none, none] zyw_M_laysNames zyw_M_ways zye_M_ways (by decide +kernel) (zt_M_laysNames hr1) ⟨⟨_, rfl, fun _ => rfl⟩, ⟨_, rfl, fun _ => rfl⟩, trivial⟩ ⟨rfl, trivial⟩ rfl rfl rfl rfl rfl rfl rfl) zd268_1 zxt269 rfl (by decide) (by decide) rfl ?_
  refine zv_con hB zd268_4 rfl ?_
  refine zv_ist hB zd268_5 rfl rfl rfl ?_
  refine zv_con hB zd268_6 rfl ?_
  refine zv_ist hB zd268_7 rfl rfl rfl ?_
  refine zv_ald hB zd268_8 rfl rfl rfl ?_
  refine zv_getr hB zd268_9 rfl ?_
  refine zv_con hB zd268_12 rfl ?_
  refine zv_con hB zd268_13 rfl ?_
  refine zv_iast hB zd268_14 rfl rfl (by decide) (by decide) ?_
  obtain ⟨q19, hq19, h⟩ := zi_bind h
  refine l0 _ _ _ _ _ _ _ _ q19 hq19 ?_
  show good 166 [.inr 1000, .inr 1000, .inl q19.1, .inr 1000, .inr 1000, .inr 1000] [] [.inl r1.1, .inl f1, .inl f2, .inl f3] [r1.2, q19.2.1, g2, g3, g4, q19.2.2]
  refine zv_ild hB zd268_166 rfl rfl ?_
  have hw := Option.some.inj h
  subst hw
  exact hret _ _ _ _ _ zd268_167 (by trivial) ⟨rfl, rfl, rfl⟩
