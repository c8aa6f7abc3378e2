/-! 62f.dec, 62g.dec -/
section
/-! Methods as functions, and that they do what these do. -/
/-! M_canBe (II)Z -/
-- names: 0 StarTalesModel('arg', 0), 1 (0, 8)(0, 12, 39), 2 (0, 12)(0, 12, 34), 3 (0, 8)(0, 12, 38), 4 (0, 12)(0, 12, 35), 5 (0, 24)(0, 12, 28)
-- fields: f0 = 0.taleLines_; arrays: g0 = 1, g1 = 2, g2 = 3, g3 = 4, g4 = 5; out: [('ret', None)]
abbrev zy_M_canBe : zNL := (6, [(0, 12)], [(0, 12, 31, 0)], [(0, 12, 39, 1), (0, 12, 34, 2), (0, 12, 38, 3), (0, 12, 35, 4), (0, 12, 28, 5)], [(1, 0, 8, 0), (2, 0, 12, 1), (3, 0, 8, 2), (4, 0, 12, 3), (5, 0, 24, 4)])
theorem zyw_M_canBe : zv_wf zy_M_canBe = true := by decide +kernel
theorem zye_M_canBe : zv_ek2 zy_M_canBe = true := by decide +kernel
def zf_M_canBe_l1_b (x1 : Int) (x2 : Int) (x3 : Int) (f0 : Int) (g0 : (Int → Int)) (g1 : (Int → Int)) (g2 : (Int → Int)) (g3 : (Int → Int)) (g4 : (Int → Int)) (rec : Int → Option (((Unit) ⊕ (Int)))) (x4 : Int) : Option (((Unit) ⊕ (Int))) := if x4 < f0 then (cond (zi_ix x4 12) (cond (zi_ix x3 8) (if (g1 x4) = (g2 x3) then (cond (zi_ix x1 8) (if (g3 x4) = (g2 x1) then (cond (zi_ix x2 24) ((zf_M_has (g4 x2) (g0 x3)).bind fun r21 => (if r21 = 0 then (some (.inr 0)) else (rec (zi_w (x4 + 1))))) none) else (if (g1 x4) = (g2 x1) then (if (g3 x4) = (g2 x3) then (cond (zi_ix x2 24) ((zf_M_has (g4 x2) (g0 x3)).bind fun r29 => (if r29 = 0 then (some (.inr 0)) else (rec (zi_w (x4 + 1))))) none) else (rec (zi_w (x4 + 1)))) else (rec (zi_w (x4 + 1))))) none) else (cond (zi_ix x1 8) (if (g1 x4) = (g2 x1) then (if (g3 x4) = (g2 x3) then (cond (zi_ix x2 24) ((zf_M_has (g4 x2) (g0 x3)).bind fun r15 => (if r15 = 0 then (some (.inr 0)) else (rec (zi_w (x4 + 1))))) none) else (rec (zi_w (x4 + 1)))) else (rec (zi_w (x4 + 1)))) none)) none) none) else (some (.inl ()))
def zf_M_canBe_l1 (x1 : Int) (x2 : Int) (x3 : Int) (f0 : Int) (g0 : (Int → Int)) (g1 : (Int → Int)) (g2 : (Int → Int)) (g3 : (Int → Int)) (g4 : (Int → Int)) : Nat → Int → Option (((Unit) ⊕ (Int)))
  | 0, _ => none
  | n + 1, x4 => zf_M_canBe_l1_b x1 x2 x3 f0 g0 g1 g2 g3 g4 (zf_M_canBe_l1 x1 x2 x3 f0 g0 g1 g2 g3 g4 n) x4
def zf_M_canBe_l0_b (x1 : Int) (x2 : Int) (f0 : Int) (g0 : (Int → Int)) (g1 : (Int → Int)) (g2 : (Int → Int)) (g3 : (Int → Int)) (g4 : (Int → Int)) (rec : Int → Option (((Unit) ⊕ (Int)))) (x3 : Int) : Option (((Unit) ⊕ (Int))) := if x3 < x1 then (cond (zi_ix x3 8) (if (g0 x3) = x2 then (some (.inr 0)) else ((zf_M_canBe_l1 x1 x2 x3 f0 g0 g1 g2 g3 g4 zi_fu 0).bind fun q31 => Sum.elim (fun e32 => (rec (zi_w (x3 + 1)))) (fun w33 => some (.inr w33)) q31)) none) else (some (.inl ()))
def zf_M_canBe_l0 (x1 : Int) (x2 : Int) (f0 : Int) (g0 : (Int → Int)) (g1 : (Int → Int)) (g2 : (Int → Int)) (g3 : (Int → Int)) (g4 : (Int → Int)) : Nat → Int → Option (((Unit) ⊕ (Int)))
  | 0, _ => none
  | n + 1, x3 => zf_M_canBe_l0_b x1 x2 f0 g0 g1 g2 g3 g4 (zf_M_canBe_l0 x1 x2 f0 g0 g1 g2 g3 g4 n) x3
def zf_M_canBe (x1 : Int) (x2 : Int) (f0 : Int) (g0 : (Int → Int)) (g1 : (Int → Int)) (g2 : (Int → Int)) (g3 : (Int → Int)) (g4 : (Int → Int)) : Option (Int) := (zf_M_canBe_l0 x1 x2 f0 g0 g1 g2 g3 g4 zi_fu 0).bind fun q34 => Sum.elim (fun e35 => (some 1)) (fun w36 => some w36) q34
theorem zd270_0 : decode zxm270.2.1 0 = .ok (.iconst 0, 1) := by decide +kernel
theorem zd270_1 : decode zxm270.2.1 1 = .ok (.istore_n 3, 1) := by decide +kernel
theorem zd270_2 : decode zxm270.2.1 2 = .ok (.iload_n 3, 1) := by decide +kernel
theorem zd270_3 : decode zxm270.2.1 3 = .ok (.iload_n 1, 1) := by decide +kernel
theorem zd270_4 : decode zxm270.2.1 4 = .ok (.if_icmp .ge 135, 3) := by decide +kernel
theorem zd270_7 : decode zxm270.2.1 7 = .ok (.aload_n 0, 1) := by decide +kernel
theorem zd270_8 : decode zxm270.2.1 8 = .ok (.getfield 80, 3) := by decide +kernel
theorem zd270_11 : decode zxm270.2.1 11 = .ok (.iload_n 3, 1) := by decide +kernel
theorem zd270_12 : decode zxm270.2.1 12 = .ok (.iaload, 1) := by decide +kernel
theorem zd270_13 : decode zxm270.2.1 13 = .ok (.iload_n 2, 1) := by decide +kernel
theorem zd270_14 : decode zxm270.2.1 14 = .ok (.if_icmp .ne 5, 3) := by decide +kernel
theorem zd270_17 : decode zxm270.2.1 17 = .ok (.iconst 0, 1) := by decide +kernel
theorem zd270_18 : decode zxm270.2.1 18 = .ok (.ireturn, 1) := by decide +kernel
theorem zd270_19 : decode zxm270.2.1 19 = .ok (.iconst 0, 1) := by decide +kernel
theorem zd270_20 : decode zxm270.2.1 20 = .ok (.istore 4, 2) := by decide +kernel
theorem zd270_22 : decode zxm270.2.1 22 = .ok (.iload 4, 2) := by decide +kernel
theorem zd270_24 : decode zxm270.2.1 24 = .ok (.aload_n 0, 1) := by decide +kernel
theorem zd270_25 : decode zxm270.2.1 25 = .ok (.getfield 351, 3) := by decide +kernel
theorem zd270_28 : decode zxm270.2.1 28 = .ok (.if_icmp .ge 105, 3) := by decide +kernel
theorem zd270_31 : decode zxm270.2.1 31 = .ok (.aload_n 0, 1) := by decide +kernel
theorem zd270_32 : decode zxm270.2.1 32 = .ok (.getfield 65, 3) := by decide +kernel
theorem zd270_35 : decode zxm270.2.1 35 = .ok (.iload 4, 2) := by decide +kernel
theorem zd270_37 : decode zxm270.2.1 37 = .ok (.iaload, 1) := by decide +kernel
theorem zd270_38 : decode zxm270.2.1 38 = .ok (.aload_n 0, 1) := by decide +kernel
theorem zd270_39 : decode zxm270.2.1 39 = .ok (.getfield 77, 3) := by decide +kernel
theorem zd270_42 : decode zxm270.2.1 42 = .ok (.iload_n 3, 1) := by decide +kernel
theorem zd270_43 : decode zxm270.2.1 43 = .ok (.iaload, 1) := by decide +kernel
theorem zd270_44 : decode zxm270.2.1 44 = .ok (.if_icmp .ne 19, 3) := by decide +kernel
theorem zd270_47 : decode zxm270.2.1 47 = .ok (.aload_n 0, 1) := by decide +kernel
theorem zd270_48 : decode zxm270.2.1 48 = .ok (.getfield 68, 3) := by decide +kernel
theorem zd270_51 : decode zxm270.2.1 51 = .ok (.iload 4, 2) := by decide +kernel
theorem zd270_53 : decode zxm270.2.1 53 = .ok (.iaload, 1) := by decide +kernel
theorem zd270_54 : decode zxm270.2.1 54 = .ok (.aload_n 0, 1) := by decide +kernel
theorem zd270_55 : decode zxm270.2.1 55 = .ok (.getfield 77, 3) := by decide +kernel
theorem zd270_58 : decode zxm270.2.1 58 = .ok (.iload_n 1, 1) := by decide +kernel
theorem zd270_59 : decode zxm270.2.1 59 = .ok (.iaload, 1) := by decide +kernel
theorem zd270_60 : decode zxm270.2.1 60 = .ok (.if_icmp .eq 35, 3) := by decide +kernel
theorem zd270_63 : decode zxm270.2.1 63 = .ok (.aload_n 0, 1) := by decide +kernel
theorem zd270_64 : decode zxm270.2.1 64 = .ok (.getfield 65, 3) := by decide +kernel
theorem zd270_67 : decode zxm270.2.1 67 = .ok (.iload 4, 2) := by decide +kernel
theorem zd270_69 : decode zxm270.2.1 69 = .ok (.iaload, 1) := by decide +kernel
theorem zd270_70 : decode zxm270.2.1 70 = .ok (.aload_n 0, 1) := by decide +kernel
theorem zd270_71 : decode zxm270.2.1 71 = .ok (.getfield 77, 3) := by decide +kernel
theorem zd270_74 : decode zxm270.2.1 74 = .ok (.iload_n 1, 1) := by decide +kernel
theorem zd270_75 : decode zxm270.2.1 75 = .ok (.iaload, 1) := by decide +kernel
theorem zd270_76 : decode zxm270.2.1 76 = .ok (.if_icmp .ne 23, 3) := by decide +kernel
theorem zd270_79 : decode zxm270.2.1 79 = .ok (.aload_n 0, 1) := by decide +kernel
theorem zd270_80 : decode zxm270.2.1 80 = .ok (.getfield 68, 3) := by decide +kernel
theorem zd270_83 : decode zxm270.2.1 83 = .ok (.iload 4, 2) := by decide +kernel
theorem zd270_85 : decode zxm270.2.1 85 = .ok (.iaload, 1) := by decide +kernel
theorem zd270_86 : decode zxm270.2.1 86 = .ok (.aload_n 0, 1) := by decide +kernel
theorem zd270_87 : decode zxm270.2.1 87 = .ok (.getfield 77, 3) := by decide +kernel
theorem zd270_90 : decode zxm270.2.1 90 = .ok (.iload_n 3, 1) := by decide +kernel
theorem zd270_91 : decode zxm270.2.1 91 = .ok (.iaload, 1) := by decide +kernel
theorem zd270_92 : decode zxm270.2.1 92 = .ok (.if_icmp .ne 7, 3) := by decide +kernel
theorem zd270_95 : decode zxm270.2.1 95 = .ok (.iconst 1, 1) := by decide +kernel
theorem zd270_96 : decode zxm270.2.1 96 = .ok (.goto 4, 3) := by decide +kernel
theorem zd270_99 : decode zxm270.2.1 99 = .ok (.iconst 0, 1) := by decide +kernel
theorem zd270_100 : decode zxm270.2.1 100 = .ok (.istore 5, 2) := by decide +kernel
theorem zd270_102 : decode zxm270.2.1 102 = .ok (.iload 5, 2) := by decide +kernel
theorem zd270_104 : decode zxm270.2.1 104 = .ok (.ifCond .eq 23, 3) := by decide +kernel
theorem zd270_107 : decode zxm270.2.1 107 = .ok (.aload_n 0, 1) := by decide +kernel
theorem zd270_108 : decode zxm270.2.1 108 = .ok (.getfield 62, 3) := by decide +kernel
theorem zd270_111 : decode zxm270.2.1 111 = .ok (.iload_n 2, 1) := by decide +kernel
theorem zd270_112 : decode zxm270.2.1 112 = .ok (.iaload, 1) := by decide +kernel
theorem zd270_113 : decode zxm270.2.1 113 = .ok (.aload_n 0, 1) := by decide +kernel
theorem zd270_114 : decode zxm270.2.1 114 = .ok (.getfield 80, 3) := by decide +kernel
theorem zd270_117 : decode zxm270.2.1 117 = .ok (.iload_n 3, 1) := by decide +kernel
theorem zd270_118 : decode zxm270.2.1 118 = .ok (.iaload, 1) := by decide +kernel
theorem zd270_119 : decode zxm270.2.1 119 = .ok (.invokestatic 138, 3) := by decide +kernel
theorem zd270_122 : decode zxm270.2.1 122 = .ok (.ifCond .ne 5, 3) := by decide +kernel
theorem zd270_125 : decode zxm270.2.1 125 = .ok (.iconst 0, 1) := by decide +kernel
theorem zd270_126 : decode zxm270.2.1 126 = .ok (.ireturn, 1) := by decide +kernel
theorem zd270_127 : decode zxm270.2.1 127 = .ok (.iinc 4 1, 3) := by decide +kernel
theorem zd270_130 : decode zxm270.2.1 130 = .ok (.goto (-108), 3) := by decide +kernel
theorem zd270_133 : decode zxm270.2.1 133 = .ok (.iinc 3 1, 3) := by decide +kernel
theorem zd270_136 : decode zxm270.2.1 136 = .ok (.goto (-134), 3) := by decide +kernel
theorem zd270_139 : decode zxm270.2.1 139 = .ok (.iconst 1, 1) := by decide +kernel
theorem zd270_140 : decode zxm270.2.1 140 = .ok (.ireturn, 1) := by decide +kernel
theorem zt_M_canBe {x1 : Int} {x2 : Int} {f0 : Int} {g0 : (Int → Int)} {g1 : (Int → Int)} {g2 : (Int → Int)} {g3 : (Int → Int)} {g4 : (Int → Int)} {o : Int} (h : zf_M_canBe x1 x2 f0 g0 g1 g2 g3 g4 = some o) : zv_Fn z_TB z_cl z_KX zy_M_canBe zxm270 (1, 60) [.inr 0, .inl x1, .inl x2] [.inl f0] [g0, g1, g2, g3, g4] (some o) [.inl f0] [g0, g1, g2, g3, g4] := zv_meth (K := (z_KF13, z_KC13, z_KL13, z_KT13, [], [], [], none)) (FT := z_FT) (MT := z_MT) (n := 3) zxp270 (z_ks13 _ (fun _ h => List.mem_cons_of_mem _ h) _ _ _ _ (fun j r h _ => by cases h)) (fun _ _ => zs_KX_p) zyw_M_canBe (fun va F G h => by obtain ⟨rfl, _⟩ := h; rfl) (fun va F G h => by obtain ⟨rfl, _⟩ := h; rfl) rfl fun good va F G hB hret hvret hP => by
  obtain ⟨rfl, rfl, rfl⟩ := hP
  have l1 : ∀ (n : Nat) (x1 : Int) (x2 : Int) (x3 : Int) (x4 : Int) (q : ((Unit) ⊕ (Int))), zf_M_canBe_l1 x1 x2 x3 f0 g0 g1 g2 g3 g4 n x4 = some q → (Sum.elim (fun e : Unit => good 133 [.inr 0, .inl x1, .inl x2, .inl x3, .inr 1000, .inr 1000] [] [.inl f0] [g0, g1, g2, g3, g4]) (fun w : Int => w = o) q) → good 22 [.inr 0, .inl x1, .inl x2, .inl x3, .inl x4, .inr 1000] [] [.inl f0] [g0, g1, g2, g3, g4] := by
    intro n
    induction n with
    | zero => intro x1 x2 x3 x4 q h; exact absurd (show none = some q from h) (fun h => by cases h)
    | succ n ih =>
      intro x1 x2 x3 x4 q h hK
      replace h : zf_M_canBe_l1_b x1 x2 x3 f0 g0 g1 g2 g3 g4 (zf_M_canBe_l1 x1 x2 x3 f0 g0 g1 g2 g3 g4 n) x4 = some q := h
      unfold zf_M_canBe_l1_b at h
      refine zv_ild hB zd270_22 rfl rfl ?_
      refine zv_ald hB zd270_24 rfl rfl rfl ?_
      refine zv_getf hB zd270_25 rfl rfl (fun _ _ => ?_)
      refine zv_cge hB zd270_28 rfl (fun hc4 => ?_) (fun hc4 => ?_)
      · rw [if_neg (Int.not_lt.mpr hc4)] at h
        have hq := Option.some.inj h
        subst hq
        refine zv_wk hB (L' := [.inr 0, .inl x1, .inl x2, .inl x3, .inr 1000, .inr 1000]) (F' := [.inl f0]) ⟨fun _ => rfl, fun _ => rfl, fun _ => rfl, fun _ => rfl, fun (h : zv_is (.inr 1000)) => (Nat.lt_irrefl 1000 h).elim, fun (h : zv_is (.inr 1000)) => (Nat.lt_irrefl 1000 h).elim, trivial⟩ ⟨fun _ => rfl, trivial⟩ ?_
        exact hK
      · rw [if_pos hc4] at h
        refine zv_ald hB zd270_31 rfl rfl rfl ?_
        refine zv_getr hB zd270_32 rfl ?_
        refine zv_ild hB zd270_35 rfl rfl ?_
        obtain ⟨c5, h⟩ := zi_if h
        refine zv_iald hB zd270_37 rfl rfl (zi_ix_ok c5).1 (zi_ix_ok c5).2 (fun _ _ => ?_)
        refine zv_ald hB zd270_38 rfl rfl rfl ?_
        refine zv_getr hB zd270_39 rfl ?_
        refine zv_ild hB zd270_42 rfl rfl ?_
        obtain ⟨c6, h⟩ := zi_if h
        refine zv_iald hB zd270_43 rfl rfl (zi_ix_ok c6).1 (zi_ix_ok c6).2 (fun _ _ => ?_)
        refine zv_cne hB zd270_44 rfl (fun hc7 => ?_) (fun hc7 => ?_)
        · rw [if_neg hc7] at h
          refine zv_ald hB zd270_63 rfl rfl rfl ?_
          refine zv_getr hB zd270_64 rfl ?_
          refine zv_ild hB zd270_67 rfl rfl ?_
          refine zv_iald hB zd270_69 rfl rfl (zi_ix_ok c5).1 (zi_ix_ok c5).2 (fun _ _ => ?_)
          refine zv_ald hB zd270_70 rfl rfl rfl ?_
          refine zv_getr hB zd270_71 rfl ?_
          refine zv_ild hB zd270_74 rfl rfl ?_
          obtain ⟨c8, h⟩ := zi_if h
          refine zv_iald hB zd270_75 rfl rfl (zi_ix_ok c8).1 (zi_ix_ok c8).2 (fun _ _ => ?_)
          refine zv_cne hB zd270_76 rfl (fun hc9 => ?_) (fun hc9 => ?_)
          · rw [if_neg hc9] at h
            refine zv_con hB zd270_99 rfl ?_
            refine zv_ist hB zd270_100 rfl rfl rfl ?_
            refine zv_ild hB zd270_102 rfl rfl ?_
            refine zv_zeq hB zd270_104 rfl (fun _ => ?_) (fun hc => absurd hc (by decide))
            refine zv_iincw hB zd270_127 rfl rfl ?_
            refine zv_goto hB zd270_130 rfl ?_
            refine zv_wk hB (L' := [.inr 0, .inl x1, .inl x2, .inl x3, .inl (zi_w (x4 + 1)), .inr 1000]) (F' := [.inl f0]) ⟨fun _ => rfl, fun _ => rfl, fun _ => rfl, fun _ => rfl, fun _ => rfl, fun (h : zv_is (.inr 1000)) => (Nat.lt_irrefl 1000 h).elim, trivial⟩ ⟨fun _ => rfl, trivial⟩ ?_
            exact ih _ _ _ _ q h hK
          · rw [if_pos hc9] at h
            refine zv_ald hB zd270_79 rfl rfl rfl ?_
            refine zv_getr hB zd270_80 rfl ?_
            refine zv_ild hB zd270_83 rfl rfl ?_
            refine zv_iald hB zd270_85 rfl rfl (zi_ix_ok c5).1 (zi_ix_ok c5).2 (fun _ _ => ?_)
            refine zv_ald hB zd270_86 rfl rfl rfl ?_
            refine zv_getr hB zd270_87 rfl ?_
            refine zv_ild hB zd270_90 rfl rfl ?_
            refine zv_iald hB zd270_91 rfl rfl (zi_ix_ok c6).1 (zi_ix_ok c6).2 (fun _ _ => ?_)
            refine zv_cne hB zd270_92 rfl (fun hc11 => ?_) (fun hc11 => ?_)
            · rw [if_neg hc11] at h
              refine zv_con hB zd270_99 rfl ?_
              refine zv_ist hB zd270_100 rfl rfl rfl ?_
              refine zv_ild hB zd270_102 rfl rfl ?_
              refine zv_zeq hB zd270_104 rfl (fun _ => ?_) (fun hc => absurd hc (by decide))
              refine zv_iincw hB zd270_127 rfl rfl ?_
              refine zv_goto hB zd270_130 rfl ?_
              refine zv_wk hB (L' := [.inr 0, .inl x1, .inl x2, .inl x3, .inl (zi_w (x4 + 1)), .inr 1000]) (F' := [.inl f0]) ⟨fun _ => rfl, fun _ => rfl, fun _ => rfl, fun _ => rfl, fun _ => rfl, fun (h : zv_is (.inr 1000)) => (Nat.lt_irrefl 1000 h).elim, trivial⟩ ⟨fun _ => rfl, trivial⟩ ?_
              exact ih _ _ _ _ q h hK
            · rw [if_pos hc11] at h
              refine zv_con hB zd270_95 rfl ?_
              refine zv_goto hB zd270_96 rfl ?_
              refine zv_ist hB zd270_100 rfl rfl rfl ?_
              refine zv_ild hB zd270_102 rfl rfl ?_
              refine zv_zeq hB zd270_104 rfl (fun hc => absurd hc (by decide)) (fun _ => ?_)
              refine zv_ald hB zd270_107 rfl rfl rfl ?_
              refine zv_getr hB zd270_108 rfl ?_
              refine zv_ild hB zd270_111 rfl rfl ?_
              obtain ⟨c14, h⟩ := zi_if h
              refine zv_iald hB zd270_112 rfl rfl (zi_ix_ok c14).1 (zi_ix_ok c14).2 (fun _ _ => ?_)
              refine zv_ald hB zd270_113 rfl rfl rfl ?_
              refine zv_getr hB zd270_114 rfl ?_
              refine zv_ild hB zd270_117 rfl rfl ?_
              refine zv_iald hB zd270_118 rfl rfl (zi_ix_ok c6).1 (zi_ix_ok c6).2 (fun _ _ => ?_)
              obtain ⟨r15, hr15, h⟩ := zi_bind h
              refine zv_cs hB (zv_emq (va2 := [.inl (g4 x2), .inl (g0 x3)]) (F := [.inl f0]) (F' := [.inl f0]) (G := [g0, g1, g2, g3, g4]) (G' := [g0, g1, g2, g3, g4]) (ρ := []) (φ := []) (ψ := []) [none] [none, none, none, none, none] zyw_M_has zyw_M_canBe zye_M_canBe (by decide +kernel) (zt_M_has hr15) trivial trivial rfl rfl rfl rfl rfl rfl rfl) zd270_119 zxt204 rfl (by decide) (by decide) rfl ?_
              refine zv_zne hB zd270_122 rfl (fun hc16 => ?_) (fun hc16 => ?_)
              · rw [if_neg hc16] at h
                refine zv_iincw hB zd270_127 rfl rfl ?_
                refine zv_goto hB zd270_130 rfl ?_
                refine zv_wk hB (L' := [.inr 0, .inl x1, .inl x2, .inl x3, .inl (zi_w (x4 + 1)), .inr 1000]) (F' := [.inl f0]) ⟨fun _ => rfl, fun _ => rfl, fun _ => rfl, fun _ => rfl, fun _ => rfl, fun (h : zv_is (.inr 1000)) => (Nat.lt_irrefl 1000 h).elim, trivial⟩ ⟨fun _ => rfl, trivial⟩ ?_
                exact ih _ _ _ _ q h hK
              · rw [if_pos hc16] at h
                refine zv_con hB zd270_125 rfl ?_
                have hw : 0 = o := zi_rk (Option.some.inj h) hK
                subst hw
                exact hret _ _ _ _ _ zd270_126 (by constructor <;> decide) ⟨rfl, rfl, rfl⟩
        · rw [if_pos hc7] at h
          refine zv_ald hB zd270_47 rfl rfl rfl ?_
          refine zv_getr hB zd270_48 rfl ?_
          refine zv_ild hB zd270_51 rfl rfl ?_
          refine zv_iald hB zd270_53 rfl rfl (zi_ix_ok c5).1 (zi_ix_ok c5).2 (fun _ _ => ?_)
          refine zv_ald hB zd270_54 rfl rfl rfl ?_
          refine zv_getr hB zd270_55 rfl ?_
          refine zv_ild hB zd270_58 rfl rfl ?_
          obtain ⟨c17, h⟩ := zi_if h
          refine zv_iald hB zd270_59 rfl rfl (zi_ix_ok c17).1 (zi_ix_ok c17).2 (fun _ _ => ?_)
          refine zv_ceq hB zd270_60 rfl (fun hc18 => ?_) (fun hc18 => ?_)
          · rw [if_pos hc18] at h
            refine zv_con hB zd270_95 rfl ?_
            refine zv_goto hB zd270_96 rfl ?_
            refine zv_ist hB zd270_100 rfl rfl rfl ?_
            refine zv_ild hB zd270_102 rfl rfl ?_
            refine zv_zeq hB zd270_104 rfl (fun hc => absurd hc (by decide)) (fun _ => ?_)
            refine zv_ald hB zd270_107 rfl rfl rfl ?_
            refine zv_getr hB zd270_108 rfl ?_
            refine zv_ild hB zd270_111 rfl rfl ?_
            obtain ⟨c20, h⟩ := zi_if h
            refine zv_iald hB zd270_112 rfl rfl (zi_ix_ok c20).1 (zi_ix_ok c20).2 (fun _ _ => ?_)
            refine zv_ald hB zd270_113 rfl rfl rfl ?_
            refine zv_getr hB zd270_114 rfl ?_
            refine zv_ild hB zd270_117 rfl rfl ?_
            refine zv_iald hB zd270_118 rfl rfl (zi_ix_ok c6).1 (zi_ix_ok c6).2 (fun _ _ => ?_)
            obtain ⟨r21, hr21, h⟩ := zi_bind h
            refine zv_cs hB (zv_emq (va2 := [.inl (g4 x2), .inl (g0 x3)]) (F := [.inl f0]) (F' := [.inl f0]) (G := [g0, g1, g2, g3, g4]) (G' := [g0, g1, g2, g3, g4]) (ρ := []) (φ := []) (ψ := []) [none] [none, none, none, none, none] zyw_M_has zyw_M_canBe zye_M_canBe (by decide +kernel) (zt_M_has hr21) trivial trivial rfl rfl rfl rfl rfl rfl rfl) zd270_119 zxt204 rfl (by decide) (by decide) rfl ?_
            refine zv_zne hB zd270_122 rfl (fun hc22 => ?_) (fun hc22 => ?_)
            · rw [if_neg hc22] at h
              refine zv_iincw hB zd270_127 rfl rfl ?_
              refine zv_goto hB zd270_130 rfl ?_
              refine zv_wk hB (L' := [.inr 0, .inl x1, .inl x2, .inl x3, .inl (zi_w (x4 + 1)), .inr 1000]) (F' := [.inl f0]) ⟨fun _ => rfl, fun _ => rfl, fun _ => rfl, fun _ => rfl, fun _ => rfl, fun (h : zv_is (.inr 1000)) => (Nat.lt_irrefl 1000 h).elim, trivial⟩ ⟨fun _ => rfl, trivial⟩ ?_
              exact ih _ _ _ _ q h hK
            · rw [if_pos hc22] at h
              refine zv_con hB zd270_125 rfl ?_
              have hw : 0 = o := zi_rk (Option.some.inj h) hK
              subst hw
              exact hret _ _ _ _ _ zd270_126 (by constructor <;> decide) ⟨rfl, rfl, rfl⟩
          · rw [if_neg hc18] at h
            refine zv_ald hB zd270_63 rfl rfl rfl ?_
            refine zv_getr hB zd270_64 rfl ?_
            refine zv_ild hB zd270_67 rfl rfl ?_
            refine zv_iald hB zd270_69 rfl rfl (zi_ix_ok c5).1 (zi_ix_ok c5).2 (fun _ _ => ?_)
            refine zv_ald hB zd270_70 rfl rfl rfl ?_
            refine zv_getr hB zd270_71 rfl ?_
            refine zv_ild hB zd270_74 rfl rfl ?_
            refine zv_iald hB zd270_75 rfl rfl (zi_ix_ok c17).1 (zi_ix_ok c17).2 (fun _ _ => ?_)
            refine zv_cne hB zd270_76 rfl (fun hc23 => ?_) (fun hc23 => ?_)
            · rw [if_neg hc23] at h
              refine zv_con hB zd270_99 rfl ?_
              refine zv_ist hB zd270_100 rfl rfl rfl ?_
              refine zv_ild hB zd270_102 rfl rfl ?_
              refine zv_zeq hB zd270_104 rfl (fun _ => ?_) (fun hc => absurd hc (by decide))
              refine zv_iincw hB zd270_127 rfl rfl ?_
              refine zv_goto hB zd270_130 rfl ?_
              refine zv_wk hB (L' := [.inr 0, .inl x1, .inl x2, .inl x3, .inl (zi_w (x4 + 1)), .inr 1000]) (F' := [.inl f0]) ⟨fun _ => rfl, fun _ => rfl, fun _ => rfl, fun _ => rfl, fun _ => rfl, fun (h : zv_is (.inr 1000)) => (Nat.lt_irrefl 1000 h).elim, trivial⟩ ⟨fun _ => rfl, trivial⟩ ?_
              exact ih _ _ _ _ q h hK
            · rw [if_pos hc23] at h
              refine zv_ald hB zd270_79 rfl rfl rfl ?_
              refine zv_getr hB zd270_80 rfl ?_
              refine zv_ild hB zd270_83 rfl rfl ?_
              refine zv_iald hB zd270_85 rfl rfl (zi_ix_ok c5).1 (zi_ix_ok c5).2 (fun _ _ => ?_)
              refine zv_ald hB zd270_86 rfl rfl rfl ?_
              refine zv_getr hB zd270_87 rfl ?_
              refine zv_ild hB zd270_90 rfl rfl ?_
              refine zv_iald hB zd270_91 rfl rfl (zi_ix_ok c6).1 (zi_ix_ok c6).2 (fun _ _ => ?_)
              refine zv_cne hB zd270_92 rfl (fun hc25 => ?_) (fun hc25 => ?_)
              · rw [if_neg hc25] at h
                refine zv_con hB zd270_99 rfl ?_
                refine zv_ist hB zd270_100 rfl rfl rfl ?_
                refine zv_ild hB zd270_102 rfl rfl ?_
                refine zv_zeq hB zd270_104 rfl (fun _ => ?_) (fun hc => absurd hc (by decide))
                refine zv_iincw hB zd270_127 rfl rfl ?_
                refine zv_goto hB zd270_130 rfl ?_
                refine zv_wk hB (L' := [.inr 0, .inl x1, .inl x2, .inl x3, .inl (zi_w (x4 + 1)), .inr 1000]) (F' := [.inl f0]) ⟨fun _ => rfl, fun _ => rfl, fun _ => rfl, fun _ => rfl, fun _ => rfl, fun (h : zv_is (.inr 1000)) => (Nat.lt_irrefl 1000 h).elim, trivial⟩ ⟨fun _ => rfl, trivial⟩ ?_
                exact ih _ _ _ _ q h hK
              · rw [if_pos hc25] at h
                refine zv_con hB zd270_95 rfl ?_
                refine zv_goto hB zd270_96 rfl ?_
                refine zv_ist hB zd270_100 rfl rfl rfl ?_
                refine zv_ild hB zd270_102 rfl rfl ?_
                refine zv_zeq hB zd270_104 rfl (fun hc => absurd hc (by decide)) (fun _ => ?_)
                refine zv_ald hB zd270_107 rfl rfl rfl ?_
                refine zv_getr hB zd270_108 rfl ?_
                refine zv_ild hB zd270_111 rfl rfl ?_
                obtain ⟨c28, h⟩ := zi_if h
                refine zv_iald hB zd270_112 rfl rfl (zi_ix_ok c28).1 (zi_ix_ok c28).2 (fun _ _ => ?_)
                refine zv_ald hB zd270_113 rfl rfl rfl ?_
                refine zv_getr hB zd270_114 rfl ?_
                refine zv_ild hB zd270_117 rfl rfl ?_
                refine zv_iald hB zd270_118 rfl rfl (zi_ix_ok c6).1 (zi_ix_ok c6).2 (fun _ _ => ?_)
                obtain ⟨r29, hr29, h⟩ := zi_bind h
                refine zv_cs hB (zv_emq (va2 := [.inl (g4 x2), .inl (g0 x3)]) (F := [.inl f0]) (F' := [.inl f0]) (G := [g0, g1, g2, g3, g4]) (G' := [g0, g1, g2, g3, g4]) (ρ := []) (φ := []) (ψ := []) [none] [none, none, none, none, none] zyw_M_has zyw_M_canBe zye_M_canBe (by decide +kernel) (zt_M_has hr29) trivial trivial rfl rfl rfl rfl rfl rfl rfl) zd270_119 zxt204 rfl (by decide) (by decide) rfl ?_
                refine zv_zne hB zd270_122 rfl (fun hc30 => ?_) (fun hc30 => ?_)
                · rw [if_neg hc30] at h
                  refine zv_iincw hB zd270_127 rfl rfl ?_
                  refine zv_goto hB zd270_130 rfl ?_
                  refine zv_wk hB (L' := [.inr 0, .inl x1, .inl x2, .inl x3, .inl (zi_w (x4 + 1)), .inr 1000]) (F' := [.inl f0]) ⟨fun _ => rfl, fun _ => rfl, fun _ => rfl, fun _ => rfl, fun _ => rfl, fun (h : zv_is (.inr 1000)) => (Nat.lt_irrefl 1000 h).elim, trivial⟩ ⟨fun _ => rfl, trivial⟩ ?_
                  exact ih _ _ _ _ q h hK
                · rw [if_pos hc30] at h
                  refine zv_con hB zd270_125 rfl ?_
                  have hw : 0 = o := zi_rk (Option.some.inj h) hK
                  subst hw
                  exact hret _ _ _ _ _ zd270_126 (by constructor <;> decide) ⟨rfl, rfl, rfl⟩
  have l0 : ∀ (n : Nat) (x1 : Int) (x2 : Int) (x3 : Int) (q : ((Unit) ⊕ (Int))), zf_M_canBe_l0 x1 x2 f0 g0 g1 g2 g3 g4 n x3 = some q → (Sum.elim (fun e : Unit => good 139 [.inr 1000, .inr 1000, .inr 1000, .inr 1000, .inr 1000, .inr 1000] [] [.inl f0] [g0, g1, g2, g3, g4]) (fun w : Int => w = o) q) → good 2 [.inr 0, .inl x1, .inl x2, .inl x3, .inr 1000, .inr 1000] [] [.inl f0] [g0, g1, g2, g3, g4] := by
    intro n
    induction n with
    | zero => intro x1 x2 x3 q h; exact absurd (show none = some q from h) (fun h => by cases h)
    | succ n ih =>
      intro x1 x2 x3 q h hK
      replace h : zf_M_canBe_l0_b x1 x2 f0 g0 g1 g2 g3 g4 (zf_M_canBe_l0 x1 x2 f0 g0 g1 g2 g3 g4 n) x3 = some q := h
      unfold zf_M_canBe_l0_b at h
      refine zv_ild hB zd270_2 rfl rfl ?_
      refine zv_ild hB zd270_3 rfl rfl ?_
      refine zv_cge hB zd270_4 rfl (fun hc1 => ?_) (fun hc1 => ?_)
      · rw [if_neg (Int.not_lt.mpr hc1)] at h
        have hq := Option.some.inj h
        subst hq
        refine zv_wk hB (L' := [.inr 1000, .inr 1000, .inr 1000, .inr 1000, .inr 1000, .inr 1000]) (F' := [.inl f0]) ⟨fun (h : zv_is (.inr 1000)) => (Nat.lt_irrefl 1000 h).elim, fun (h : zv_is (.inr 1000)) => (Nat.lt_irrefl 1000 h).elim, fun (h : zv_is (.inr 1000)) => (Nat.lt_irrefl 1000 h).elim, fun (h : zv_is (.inr 1000)) => (Nat.lt_irrefl 1000 h).elim, fun (h : zv_is (.inr 1000)) => (Nat.lt_irrefl 1000 h).elim, fun (h : zv_is (.inr 1000)) => (Nat.lt_irrefl 1000 h).elim, trivial⟩ ⟨fun _ => rfl, trivial⟩ ?_
        exact hK
      · rw [if_pos hc1] at h
        refine zv_ald hB zd270_7 rfl rfl rfl ?_
        refine zv_getr hB zd270_8 rfl ?_
        refine zv_ild hB zd270_11 rfl rfl ?_
        obtain ⟨c2, h⟩ := zi_if h
        refine zv_iald hB zd270_12 rfl rfl (zi_ix_ok c2).1 (zi_ix_ok c2).2 (fun _ _ => ?_)
        refine zv_ild hB zd270_13 rfl rfl ?_
        refine zv_cne hB zd270_14 rfl (fun hc3 => ?_) (fun hc3 => ?_)
        · rw [if_neg hc3] at h
          refine zv_con hB zd270_19 rfl ?_
          refine zv_ist hB zd270_20 rfl rfl rfl ?_
          obtain ⟨q31, hq31, h⟩ := zi_bind h
          refine l1 _ _ _ _ _ q31 hq31 ?_
          rcases q31 with e32 | w33
          · replace h := zi_sl h
            show good 133 [.inr 0, .inl x1, .inl x2, .inl x3, .inr 1000, .inr 1000] [] [.inl f0] [g0, g1, g2, g3, g4]
            refine zv_iincw hB zd270_133 rfl rfl ?_
            refine zv_goto hB zd270_136 rfl ?_
            exact ih _ _ _ q h hK
          · exact zi_rk (Option.some.inj h) hK
        · rw [if_pos hc3] at h
          refine zv_con hB zd270_17 rfl ?_
          have hw : 0 = o := zi_rk (Option.some.inj h) hK
          subst hw
          exact hret _ _ _ _ _ zd270_18 (by constructor <;> decide) ⟨rfl, rfl, rfl⟩
  unfold zf_M_canBe at h
  refine zv_con hB zd270_0 rfl ?_
  refine zv_ist hB zd270_1 rfl rfl rfl ?_
  obtain ⟨q34, hq34, h⟩ := zi_bind h
  refine l0 _ _ _ _ q34 hq34 ?_
  rcases q34 with e35 | w36
  · replace h := zi_sl h
    show good 139 [.inr 1000, .inr 1000, .inr 1000, .inr 1000, .inr 1000, .inr 1000] [] [.inl f0] [g0, g1, g2, g3, g4]
    refine zv_con hB zd270_139 rfl ?_
    have hw := Option.some.inj h
    subst hw
    exact hret _ _ _ _ _ zd270_140 (by constructor <;> decide) ⟨rfl, rfl, rfl⟩
  · exact Option.some.inj h
/-! M_ways (I)I -/
-- names: 0 StarTalesModel('arg', 0), 1 (0, 8)(0, 12, 38), 2 (0, 8)(0, 12, 39), 3 (0, 12)(0, 12, 34), 4 (0, 12)(0, 12, 35), 5 (0, 24)(0, 12, 28), 6 (0, 8)(0, 12, 40)
-- fields: f0 = 0.nameMany_, f1 = 0.namesIn_, f2 = 0.seen0_, f3 = 0.taleLines_; arrays: g0 = 1, g1 = 2, g2 = 3, g3 = 4, g4 = 5, g5 = 6; out: [('ret', None), ('f', 0), ('g', 0), ('g', 1), ('g', 5)]
abbrev zy_M_ways : zNL := (7, [(0, 12)], [(0, 12, 41, 0), (0, 12, 33, 1), (0, 12, 27, 2), (0, 12, 31, 3)], [(0, 12, 38, 1), (0, 12, 39, 2), (0, 12, 34, 3), (0, 12, 35, 4), (0, 12, 28, 5), (0, 12, 40, 6)], [(1, 0, 8, 0), (2, 0, 8, 1), (3, 0, 12, 2), (4, 0, 12, 3), (5, 0, 24, 4), (6, 0, 8, 5)])
theorem zyw_M_ways : zv_wf zy_M_ways = true := by decide +kernel
theorem zye_M_ways : zv_ek2 zy_M_ways = true := by decide +kernel
def zf_M_ways_l1_b (x3 : Int) (f2 : Int) (f3 : Int) (g0 : (Int → Int)) (g1 : (Int → Int)) (g2 : (Int → Int)) (g3 : (Int → Int)) (g4 : (Int → Int)) (rec : Int → Option (Int)) (x4 : Int) : Option (Int) := if x4 < 24 then ((zf_M_has f2 x4).bind fun r6 => (if r6 = 0 then (rec (zi_w (x4 + 1))) else ((zf_M_canBe x3 x4 f3 g1 g2 g0 g3 g4).bind fun r8 => (if r8 = 0 then (rec (zi_w (x4 + 1))) else (some x4))))) else (some x4)
def zf_M_ways_l1 (x3 : Int) (f2 : Int) (f3 : Int) (g0 : (Int → Int)) (g1 : (Int → Int)) (g2 : (Int → Int)) (g3 : (Int → Int)) (g4 : (Int → Int)) : Nat → Int → Option (Int)
  | 0, _ => none
  | n + 1, x4 => zf_M_ways_l1_b x3 f2 f3 g0 g1 g2 g3 g4 (zf_M_ways_l1 x3 f2 f3 g0 g1 g2 g3 g4 n) x4
def zf_M_ways_l2_b (f0 : Int) (g0 : (Int → Int)) (g1 : (Int → Int)) (rec : Int → (Int → Int) → Option ((Int → Int))) (x5 : Int) (g5 : (Int → Int)) : Option ((Int → Int)) := if x5 < f0 then (cond (zi_ix x5 8) (cond (zi_ix (g0 x5) 8) (rec (zi_w (x5 + 1)) (zv_up g5 (g0 x5) (g1 x5))) none) none) else (some g5)
def zf_M_ways_l2 (f0 : Int) (g0 : (Int → Int)) (g1 : (Int → Int)) : Nat → Int → (Int → Int) → Option ((Int → Int))
  | 0, _, _ => none
  | n + 1, x5, g5 => zf_M_ways_l2_b f0 g0 g1 (zf_M_ways_l2 f0 g0 g1 n) x5 g5
def zf_M_ways_l0_b (x1 : Int) (f0 : Int) (f2 : Int) (f3 : Int) (g0 : (Int → Int)) (g2 : (Int → Int)) (g3 : (Int → Int)) (g4 : (Int → Int)) (rec : Int → Int → (Int → Int) → (Int → Int) → Option (Int × (Int → Int) × (Int → Int))) (x2 : Int) (x3 : Int) (g1 : (Int → Int)) (g5 : (Int → Int)) : Option (Int × (Int → Int) × (Int → Int)) := if x3 < 0 then (some (x2, g1, g5)) else (if x2 < x1 then (cond (zi_ix x3 8) ((zf_M_ways_l1 x3 f2 f3 g0 g1 g2 g3 g4 zi_fu (zi_w ((g1 x3) + 1))).bind fun q10 => (if q10 = 24 then (rec x2 (zi_w (x3 - 1)) g1 g5) else (if (zi_w (x3 + 1)) < f0 then (cond (zi_ix (zi_w (x3 + 1)) 8) (rec x2 (zi_w (x3 + 1)) (zv_up (zv_up g1 x3 q10) (zi_w (x3 + 1)) (-1)) g5) none) else (if x2 = 0 then ((zf_M_ways_l2 f0 g0 (zv_up g1 x3 q10) zi_fu 0 g5).bind fun q17 => (rec (zi_w (x2 + 1)) x3 (zv_up g1 x3 q10) q17)) else (rec (zi_w (x2 + 1)) x3 (zv_up g1 x3 q10) g5))))) none) else (some (x2, g1, g5)))
def zf_M_ways_l0 (x1 : Int) (f0 : Int) (f2 : Int) (f3 : Int) (g0 : (Int → Int)) (g2 : (Int → Int)) (g3 : (Int → Int)) (g4 : (Int → Int)) : Nat → Int → Int → (Int → Int) → (Int → Int) → Option (Int × (Int → Int) × (Int → Int))
  | 0, _, _, _, _ => none
  | n + 1, x2, x3, g1, g5 => zf_M_ways_l0_b x1 f0 f2 f3 g0 g2 g3 g4 (zf_M_ways_l0 x1 f0 f2 f3 g0 g2 g3 g4 n) x2 x3 g1 g5
def zf_M_ways (x1 : Int) (f0 : Int) (f1 : Int) (f2 : Int) (f3 : Int) (g0 : (Int → Int)) (g1 : (Int → Int)) (g2 : (Int → Int)) (g3 : (Int → Int)) (g4 : (Int → Int)) (g5 : (Int → Int)) : Option (Int × Int × (Int → Int) × (Int → Int) × (Int → Int)) := (zf_M_laysNames f0 f1 g0).bind fun r1 => ((zf_M_ways_l0 x1 r1.1 f2 f3 r1.2 g2 g3 g4 zi_fu 0 0 (zv_up g1 0 (-1)) g5).bind fun q19 => (some (q19.1, r1.1, r1.2, q19.2.1, q19.2.2)))
theorem zd268_0 : decode zxm268.2.1 0 = .ok (.aload_n 0, 1) := by decide +kernel
theorem zd268_1 : decode zxm268.2.1 1 = .ok (.invokevirtual 360, 3) := by decide +kernel
theorem zd268_4 : decode zxm268.2.1 4 = .ok (.iconst 0, 1) := by decide +kernel
theorem zd268_5 : decode zxm268.2.1 5 = .ok (.istore_n 2, 1) := by decide +kernel
theorem zd268_6 : decode zxm268.2.1 6 = .ok (.iconst 0, 1) := by decide +kernel
theorem zd268_7 : decode zxm268.2.1 7 = .ok (.istore_n 3, 1) := by decide +kernel
theorem zd268_8 : decode zxm268.2.1 8 = .ok (.aload_n 0, 1) := by decide +kernel
theorem zd268_9 : decode zxm268.2.1 9 = .ok (.getfield 80, 3) := by decide +kernel
theorem zd268_12 : decode zxm268.2.1 12 = .ok (.iconst 0, 1) := by decide +kernel
theorem zd268_13 : decode zxm268.2.1 13 = .ok (.iconst (-1), 1) := by decide +kernel
theorem zd268_14 : decode zxm268.2.1 14 = .ok (.iastore, 1) := by decide +kernel
theorem zd268_15 : decode zxm268.2.1 15 = .ok (.iload_n 3, 1) := by decide +kernel
theorem zd268_16 : decode zxm268.2.1 16 = .ok (.ifCond .lt 150, 3) := by decide +kernel
theorem zd268_19 : decode zxm268.2.1 19 = .ok (.iload_n 2, 1) := by decide +kernel
theorem zd268_20 : decode zxm268.2.1 20 = .ok (.iload_n 1, 1) := by decide +kernel
theorem zd268_21 : decode zxm268.2.1 21 = .ok (.if_icmp .ge 145, 3) := by decide +kernel
theorem zd268_24 : decode zxm268.2.1 24 = .ok (.aload_n 0, 1) := by decide +kernel
theorem zd268_25 : decode zxm268.2.1 25 = .ok (.getfield 80, 3) := by decide +kernel
theorem zd268_28 : decode zxm268.2.1 28 = .ok (.iload_n 3, 1) := by decide +kernel
theorem zd268_29 : decode zxm268.2.1 29 = .ok (.iaload, 1) := by decide +kernel
theorem zd268_30 : decode zxm268.2.1 30 = .ok (.iconst 1, 1) := by decide +kernel
theorem zd268_31 : decode zxm268.2.1 31 = .ok (.iadd, 1) := by decide +kernel
theorem zd268_32 : decode zxm268.2.1 32 = .ok (.istore 4, 2) := by decide +kernel
theorem zd268_34 : decode zxm268.2.1 34 = .ok (.iload 4, 2) := by decide +kernel
theorem zd268_36 : decode zxm268.2.1 36 = .ok (.bipush 24, 2) := by decide +kernel
theorem zd268_38 : decode zxm268.2.1 38 = .ok (.if_icmp .ge 34, 3) := by decide +kernel
theorem zd268_41 : decode zxm268.2.1 41 = .ok (.aload_n 0, 1) := by decide +kernel
theorem zd268_42 : decode zxm268.2.1 42 = .ok (.getfield 303, 3) := by decide +kernel
theorem zd268_45 : decode zxm268.2.1 45 = .ok (.iload 4, 2) := by decide +kernel
theorem zd268_47 : decode zxm268.2.1 47 = .ok (.invokestatic 138, 3) := by decide +kernel
theorem zd268_50 : decode zxm268.2.1 50 = .ok (.ifCond .eq 13, 3) := by decide +kernel
theorem zd268_53 : decode zxm268.2.1 53 = .ok (.aload_n 0, 1) := by decide +kernel
theorem zd268_54 : decode zxm268.2.1 54 = .ok (.iload_n 3, 1) := by decide +kernel
theorem zd268_55 : decode zxm268.2.1 55 = .ok (.iload 4, 2) := by decide +kernel
theorem zd268_57 : decode zxm268.2.1 57 = .ok (.invokevirtual 363, 3) := by decide +kernel
theorem zd268_60 : decode zxm268.2.1 60 = .ok (.ifCond .ne 12, 3) := by decide +kernel
theorem zd268_63 : decode zxm268.2.1 63 = .ok (.iload 4, 2) := by decide +kernel
theorem zd268_65 : decode zxm268.2.1 65 = .ok (.iconst 1, 1) := by decide +kernel
theorem zd268_66 : decode zxm268.2.1 66 = .ok (.iadd, 1) := by decide +kernel
theorem zd268_67 : decode zxm268.2.1 67 = .ok (.istore 4, 2) := by decide +kernel
theorem zd268_69 : decode zxm268.2.1 69 = .ok (.goto (-35), 3) := by decide +kernel
theorem zd268_72 : decode zxm268.2.1 72 = .ok (.iload 4, 2) := by decide +kernel
theorem zd268_74 : decode zxm268.2.1 74 = .ok (.bipush 24, 2) := by decide +kernel
theorem zd268_76 : decode zxm268.2.1 76 = .ok (.if_icmp .ne 10, 3) := by decide +kernel
theorem zd268_79 : decode zxm268.2.1 79 = .ok (.iload_n 3, 1) := by decide +kernel
theorem zd268_80 : decode zxm268.2.1 80 = .ok (.iconst 1, 1) := by decide +kernel
theorem zd268_81 : decode zxm268.2.1 81 = .ok (.isub, 1) := by decide +kernel
theorem zd268_82 : decode zxm268.2.1 82 = .ok (.istore_n 3, 1) := by decide +kernel
theorem zd268_83 : decode zxm268.2.1 83 = .ok (.goto (-68), 3) := by decide +kernel
theorem zd268_86 : decode zxm268.2.1 86 = .ok (.aload_n 0, 1) := by decide +kernel
theorem zd268_87 : decode zxm268.2.1 87 = .ok (.getfield 80, 3) := by decide +kernel
theorem zd268_90 : decode zxm268.2.1 90 = .ok (.iload_n 3, 1) := by decide +kernel
theorem zd268_91 : decode zxm268.2.1 91 = .ok (.iload 4, 2) := by decide +kernel
theorem zd268_93 : decode zxm268.2.1 93 = .ok (.iastore, 1) := by decide +kernel
theorem zd268_94 : decode zxm268.2.1 94 = .ok (.iload_n 3, 1) := by decide +kernel
theorem zd268_95 : decode zxm268.2.1 95 = .ok (.iconst 1, 1) := by decide +kernel
theorem zd268_96 : decode zxm268.2.1 96 = .ok (.iadd, 1) := by decide +kernel
theorem zd268_97 : decode zxm268.2.1 97 = .ok (.aload_n 0, 1) := by decide +kernel
theorem zd268_98 : decode zxm268.2.1 98 = .ok (.getfield 357, 3) := by decide +kernel
theorem zd268_101 : decode zxm268.2.1 101 = .ok (.if_icmp .ge 17, 3) := by decide +kernel
theorem zd268_104 : decode zxm268.2.1 104 = .ok (.iload_n 3, 1) := by decide +kernel
theorem zd268_105 : decode zxm268.2.1 105 = .ok (.iconst 1, 1) := by decide +kernel
theorem zd268_106 : decode zxm268.2.1 106 = .ok (.iadd, 1) := by decide +kernel
theorem zd268_107 : decode zxm268.2.1 107 = .ok (.istore_n 3, 1) := by decide +kernel
theorem zd268_108 : decode zxm268.2.1 108 = .ok (.aload_n 0, 1) := by decide +kernel
theorem zd268_109 : decode zxm268.2.1 109 = .ok (.getfield 80, 3) := by decide +kernel
theorem zd268_112 : decode zxm268.2.1 112 = .ok (.iload_n 3, 1) := by decide +kernel
theorem zd268_113 : decode zxm268.2.1 113 = .ok (.iconst (-1), 1) := by decide +kernel
theorem zd268_114 : decode zxm268.2.1 114 = .ok (.iastore, 1) := by decide +kernel
theorem zd268_115 : decode zxm268.2.1 115 = .ok (.goto (-100), 3) := by decide +kernel
theorem zd268_118 : decode zxm268.2.1 118 = .ok (.iload_n 2, 1) := by decide +kernel
theorem zd268_119 : decode zxm268.2.1 119 = .ok (.ifCond .ne 40, 3) := by decide +kernel
theorem zd268_122 : decode zxm268.2.1 122 = .ok (.iconst 0, 1) := by decide +kernel
theorem zd268_123 : decode zxm268.2.1 123 = .ok (.istore 5, 2) := by decide +kernel
theorem zd268_125 : decode zxm268.2.1 125 = .ok (.iload 5, 2) := by decide +kernel
theorem zd268_127 : decode zxm268.2.1 127 = .ok (.aload_n 0, 1) := by decide +kernel
theorem zd268_128 : decode zxm268.2.1 128 = .ok (.getfield 357, 3) := by decide +kernel
theorem zd268_131 : decode zxm268.2.1 131 = .ok (.if_icmp .ge 28, 3) := by decide +kernel
theorem zd268_134 : decode zxm268.2.1 134 = .ok (.aload_n 0, 1) := by decide +kernel
theorem zd268_135 : decode zxm268.2.1 135 = .ok (.getfield 83, 3) := by decide +kernel
theorem zd268_138 : decode zxm268.2.1 138 = .ok (.aload_n 0, 1) := by decide +kernel
theorem zd268_139 : decode zxm268.2.1 139 = .ok (.getfield 77, 3) := by decide +kernel
theorem zd268_142 : decode zxm268.2.1 142 = .ok (.iload 5, 2) := by decide +kernel
theorem zd268_144 : decode zxm268.2.1 144 = .ok (.iaload, 1) := by decide +kernel
theorem zd268_145 : decode zxm268.2.1 145 = .ok (.aload_n 0, 1) := by decide +kernel
theorem zd268_146 : decode zxm268.2.1 146 = .ok (.getfield 80, 3) := by decide +kernel
theorem zd268_149 : decode zxm268.2.1 149 = .ok (.iload 5, 2) := by decide +kernel
theorem zd268_151 : decode zxm268.2.1 151 = .ok (.iaload, 1) := by decide +kernel
theorem zd268_152 : decode zxm268.2.1 152 = .ok (.iastore, 1) := by decide +kernel
theorem zd268_153 : decode zxm268.2.1 153 = .ok (.iinc 5 1, 3) := by decide +kernel
theorem zd268_156 : decode zxm268.2.1 156 = .ok (.goto (-31), 3) := by decide +kernel
theorem zd268_159 : decode zxm268.2.1 159 = .ok (.iload_n 2, 1) := by decide +kernel
theorem zd268_160 : decode zxm268.2.1 160 = .ok (.iconst 1, 1) := by decide +kernel
theorem zd268_161 : decode zxm268.2.1 161 = .ok (.iadd, 1) := by decide +kernel
theorem zd268_162 : decode zxm268.2.1 162 = .ok (.istore_n 2, 1) := by decide +kernel
theorem zd268_163 : decode zxm268.2.1 163 = .ok (.goto (-148), 3) := by decide +kernel
theorem zd268_166 : decode zxm268.2.1 166 = .ok (.iload_n 2, 1) := by decide +kernel
theorem zd268_167 : decode zxm268.2.1 167 = .ok (.ireturn, 1) := by decide +kernel
theorem zt_M_ways {x1 : Int} {f0 : Int} {f1 : Int} {f2 : Int} {f3 : Int} {g0 : (Int → Int)} {g1 : (Int → Int)} {g2 : (Int → Int)} {g3 : (Int → Int)} {g4 : (Int → Int)} {g5 : (Int → Int)} {o : Int × Int × (Int → Int) × (Int → Int) × (Int → Int)} (h : zf_M_ways x1 f0 f1 f2 f3 g0 g1 g2 g3 g4 g5 = some o) : zv_Fn z_TB z_cl z_KX zy_M_ways zxm268 (2, 120) [.inr 0, .inl x1] [.inl f0, .inl f1, .inl f2, .inl f3] [g0, g1, g2, g3, g4, g5] (some o.1) [.inl o.2.1, .inl f1, .inl f2, .inl f3] [o.2.2.1, o.2.2.2.1, g2, g3, g4, o.2.2.2.2] := zv_meth (K := (z_KF13, z_KC13, z_KL13, z_KT13, [], [], [], none)) (FT := z_FT) (MT := z_MT) (n := 2) zxp268 (z_ks13 _ (fun _ h => List.mem_cons_of_mem _ h) _ _ _ _ (fun j r h _ => by cases h)) (fun _ _ => zs_KX_p) zyw_M_ways (fun va F G h => by obtain ⟨rfl, _⟩ := h; rfl) (fun va F G h => by obtain ⟨rfl, _⟩ := h; rfl) rfl fun good va F G hB hret hvret hP => by
  obtain ⟨rfl, rfl, rfl⟩ := hP
  have l1 : ∀ (n : Nat) (x1 : Int) (x2 : Int) (x3 : Int) (x4 : Int) (f0 : Int) (g0 : (Int → Int)) (g1 : (Int → Int)) (g5 : (Int → Int)) (q : Int), zf_M_ways_l1 x3 f2 f3 g0 g1 g2 g3 g4 n x4 = some q → (good 72 [.inr 0, .inl x1, .inl x2, .inl x3, .inl q, .inr 1000] [] [.inl f0, .inl f1, .inl f2, .inl f3] [g0, g1, g2, g3, g4, g5]) → good 34 [.inr 0, .inl x1, .inl x2, .inl x3, .inl x4, .inr 1000] [] [.inl f0, .inl f1, .inl f2, .inl f3] [g0, g1, g2, g3, g4, g5] := by
    intro n
    induction n with
    | zero => intro x1 x2 x3 x4 f0 g0 g1 g5 q h; exact absurd (show none = some q from h) (fun h => by cases h)
    | succ n ih =>
      intro x1 x2 x3 x4 f0 g0 g1 g5 q h hK
      replace h : zf_M_ways_l1_b x3 f2 f3 g0 g1 g2 g3 g4 (zf_M_ways_l1 x3 f2 f3 g0 g1 g2 g3 g4 n) x4 = some q := h
      unfold zf_M_ways_l1_b at h
      refine zv_ild hB zd268_34 rfl rfl ?_
      refine zv_con hB zd268_36 rfl ?_
      refine zv_cge hB zd268_38 rfl (fun hc5 => ?_) (fun hc5 => ?_)
      · rw [if_neg (Int.not_lt.mpr hc5)] at h
        have hq := Option.some.inj h
        subst hq
        exact hK
      · rw [if_pos hc5] at h
        refine zv_ald hB zd268_41 rfl rfl rfl ?_
        refine zv_getf hB zd268_42 rfl rfl (fun _ _ => ?_)
        refine zv_ild hB zd268_45 rfl rfl ?_
        obtain ⟨r6, hr6, h⟩ := zi_bind h
        refine zv_cs hB (zv_emq (va2 := [.inl f2, .inl x4]) (F := [.inl f0, .inl f1, .inl f2, .inl f3]) (F' := [.inl f0, .inl f1, .inl f2, .inl f3]) (G := [g0, g1, g2, g3, g4, g5]) (G' := [g0, g1, g2, g3, g4, g5]) (ρ := []) (φ := []) (ψ := []) [none, none, none, none] [none, none, none, none, none, none] zyw_M_has zyw_M_ways zye_M_ways (by decide +kernel) (zt_M_has hr6) trivial trivial rfl rfl rfl rfl rfl rfl rfl) zd268_47 zxt204 rfl (by decide) (by decide) rfl ?_
        refine zv_zeq hB zd268_50 rfl (fun hc7 => ?_) (fun hc7 => ?_)
        · rw [if_pos hc7] at h
          refine zv_ild hB zd268_63 rfl rfl ?_
          refine zv_con hB zd268_65 rfl ?_
          refine zv_addw hB zd268_66 ?_
          refine zv_ist hB zd268_67 rfl rfl rfl ?_
          refine zv_goto hB zd268_69 rfl ?_
          exact ih _ _ _ _ _ _ _ _ q h hK
        · rw [if_neg hc7] at h
          refine zv_ald hB zd268_53 rfl rfl rfl ?_
          refine zv_ild hB zd268_54 rfl rfl ?_
          refine zv_ild hB zd268_55 rfl rfl ?_
          obtain ⟨r8, hr8, h⟩ := zi_bind h
          refine zv_cv hB (zv_emq (va2 := [.inr 0, .inl x3, .inl x4]) (F := [.inl f0, .inl f1, .inl f2, .inl f3]) (F' := [.inl f0, .inl f1, .inl f2, .inl f3]) (G := [g0, g1, g2, g3, g4, g5]) (G' := [g0, g1, g2, g3, g4, g5]) (ρ := [0, 2, 3, 1, 4, 5]) (φ := [3]) (ψ := [1, 2, 0, 3, 4]) [none, none, none, some 0] [some 2, some 0, some 1, some 3, some 4, none] zyw_M_canBe zyw_M_ways zye_M_ways (by decide +kernel) (zt_M_canBe hr8) ⟨⟨_, rfl, fun _ => rfl⟩, trivial⟩ ⟨rfl, rfl, rfl, rfl, rfl, trivial⟩ rfl rfl rfl rfl rfl rfl rfl) zd268_57 zxt270 rfl (by decide) (by decide) rfl ?_
          refine zv_zne hB zd268_60 rfl (fun hc9 => ?_) (fun hc9 => ?_)
          · rw [if_neg hc9] at h
            have hq := Option.some.inj h
            subst hq
            exact hK
          · rw [if_pos hc9] at h
            refine zv_ild hB zd268_63 rfl rfl ?_
            refine zv_con hB zd268_65 rfl ?_
            refine zv_addw hB zd268_66 ?_
            refine zv_ist hB zd268_67 rfl rfl rfl ?_
            refine zv_goto hB zd268_69 rfl ?_
            exact ih _ _ _ _ _ _ _ _ q h hK
  have l2 : ∀ (n : Nat) (x1 : Int) (x2 : Int) (x3 : Int) (x5 : Int) (f0 : Int) (g0 : (Int → Int)) (g1 : (Int → Int)) (g5 : (Int → Int)) (q : (Int → Int)), zf_M_ways_l2 f0 g0 g1 n x5 g5 = some q → (good 159 [.inr 0, .inl x1, .inl x2, .inl x3, .inr 1000, .inr 1000] [] [.inl f0, .inl f1, .inl f2, .inl f3] [g0, g1, g2, g3, g4, q]) → good 125 [.inr 0, .inl x1, .inl x2, .inl x3, .inr 1000, .inl x5] [] [.inl f0, .inl f1, .inl f2, .inl f3] [g0, g1, g2, g3, g4, g5] := by
    intro n
    induction n with
    | zero => intro x1 x2 x3 x5 f0 g0 g1 g5 q h; exact absurd (show none = some q from h) (fun h => by cases h)
    | succ n ih =>
      intro x1 x2 x3 x5 f0 g0 g1 g5 q h hK
      replace h : zf_M_ways_l2_b f0 g0 g1 (zf_M_ways_l2 f0 g0 g1 n) x5 g5 = some q := h
      unfold zf_M_ways_l2_b at h
      refine zv_ild hB zd268_125 rfl rfl ?_
      refine zv_ald hB zd268_127 rfl rfl rfl ?_
      refine zv_getf hB zd268_128 rfl rfl (fun _ _ => ?_)
      refine zv_cge hB zd268_131 rfl (fun hc14 => ?_) (fun hc14 => ?_)
      · rw [if_neg (Int.not_lt.mpr hc14)] at h
        have hq := Option.some.inj h
        subst hq
        refine zv_wk hB (L' := [.inr 0, .inl x1, .inl x2, .inl x3, .inr 1000, .inr 1000]) (F' := [.inl f0, .inl f1, .inl f2, .inl f3]) ⟨fun _ => rfl, fun _ => rfl, fun _ => rfl, fun _ => rfl, fun (h : zv_is (.inr 1000)) => (Nat.lt_irrefl 1000 h).elim, fun (h : zv_is (.inr 1000)) => (Nat.lt_irrefl 1000 h).elim, trivial⟩ ⟨fun _ => rfl, fun _ => rfl, fun _ => rfl, fun _ => rfl, trivial⟩ ?_
        exact hK
      · rw [if_pos hc14] at h
        refine zv_ald hB zd268_134 rfl rfl rfl ?_
        refine zv_getr hB zd268_135 rfl ?_
        refine zv_ald hB zd268_138 rfl rfl rfl ?_
        refine zv_getr hB zd268_139 rfl ?_
        refine zv_ild hB zd268_142 rfl rfl ?_
        obtain ⟨c15, h⟩ := zi_if h
        refine zv_iald hB zd268_144 rfl rfl (zi_ix_ok c15).1 (zi_ix_ok c15).2 (fun _ _ => ?_)
        refine zv_ald hB zd268_145 rfl rfl rfl ?_
        refine zv_getr hB zd268_146 rfl ?_
        refine zv_ild hB zd268_149 rfl rfl ?_
        refine zv_iald hB zd268_151 rfl rfl (zi_ix_ok c15).1 (zi_ix_ok c15).2 (fun _ _ => ?_)
        obtain ⟨c16, h⟩ := zi_if h
        refine zv_iast hB zd268_152 rfl rfl (zi_ix_ok c16).1 (zi_ix_ok c16).2 ?_
        refine zv_iincw hB zd268_153 rfl rfl ?_
        refine zv_goto hB zd268_156 rfl ?_
        exact ih _ _ _ _ _ _ _ _ q h hK
  have l0 : ∀ (n : Nat) (x1 : Int) (x2 : Int) (x3 : Int) (f0 : Int) (g0 : (Int → Int)) (g1 : (Int → Int)) (g5 : (Int → Int)) (q : Int × (Int → Int) × (Int → Int)), zf_M_ways_l0 x1 f0 f2 f3 g0 g2 g3 g4 n x2 x3 g1 g5 = some q → (good 166 [.inr 1000, .inr 1000, .inl q.1, .inr 1000, .inr 1000, .inr 1000] [] [.inl f0, .inl f1, .inl f2, .inl f3] [g0, q.2.1, g2, g3, g4, q.2.2]) → good 15 [.inr 0, .inl x1, .inl x2, .inl x3, .inr 1000, .inr 1000] [] [.inl f0, .inl f1, .inl f2, .inl f3] [g0, g1, g2, g3, g4, g5] := by
    intro n
    induction n with
    | zero => intro x1 x2 x3 f0 g0 g1 g5 q h; exact absurd (show none = some q from h) (fun h => by cases h)
    | succ n ih =>
      intro x1 x2 x3 f0 g0 g1 g5 q h hK
      replace h : zf_M_ways_l0_b x1 f0 f2 f3 g0 g2 g3 g4 (zf_M_ways_l0 x1 f0 f2 f3 g0 g2 g3 g4 n) x2 x3 g1 g5 = some q := h
      unfold zf_M_ways_l0_b at h
      refine zv_ild hB zd268_15 rfl rfl ?_
      refine zv_zlt hB zd268_16 rfl (fun hc2 => ?_) (fun hc2 => ?_)
      · rw [if_pos hc2] at h
        have hq := Option.some.inj h
        subst hq
        refine zv_wk hB (L' := [.inr 1000, .inr 1000, .inl x2, .inr 1000, .inr 1000, .inr 1000]) (F' := [.inl f0, .inl f1, .inl f2, .inl f3]) ⟨fun (h : zv_is (.inr 1000)) => (Nat.lt_irrefl 1000 h).elim, fun (h : zv_is (.inr 1000)) => (Nat.lt_irrefl 1000 h).elim, fun _ => rfl, fun (h : zv_is (.inr 1000)) => (Nat.lt_irrefl 1000 h).elim, fun (h : zv_is (.inr 1000)) => (Nat.lt_irrefl 1000 h).elim, fun (h : zv_is (.inr 1000)) => (Nat.lt_irrefl 1000 h).elim, trivial⟩ ⟨fun _ => rfl, fun _ => rfl, fun _ => rfl, fun _ => rfl, trivial⟩ ?_
        exact hK
      · rw [if_neg (Int.not_lt.mpr hc2)] at h
        refine zv_ild hB zd268_19 rfl rfl ?_
        refine zv_ild hB zd268_20 rfl rfl ?_
        refine zv_cge hB zd268_21 rfl (fun hc3 => ?_) (fun hc3 => ?_)
        · rw [if_neg (Int.not_lt.mpr hc3)] at h
          have hq := Option.some.inj h
          subst hq
          refine zv_wk hB (L' := [.inr 1000, .inr 1000, .inl x2, .inr 1000, .inr 1000, .inr 1000]) (F' := [.inl f0, .inl f1, .inl f2, .inl f3]) ⟨fun (h : zv_is (.inr 1000)) => (Nat.lt_irrefl 1000 h).elim, fun (h : zv_is (.inr 1000)) => (Nat.lt_irrefl 1000 h).elim, fun _ => rfl, fun (h : zv_is (.inr 1000)) => (Nat.lt_irrefl 1000 h).elim, fun (h : zv_is (.inr 1000)) => (Nat.lt_irrefl 1000 h).elim, fun (h : zv_is (.inr 1000)) => (Nat.lt_irrefl 1000 h).elim, trivial⟩ ⟨fun _ => rfl, fun _ => rfl, fun _ => rfl, fun _ => rfl, trivial⟩ ?_
          exact hK
        · rw [if_pos hc3] at h
          refine zv_ald hB zd268_24 rfl rfl rfl ?_
          refine zv_getr hB zd268_25 rfl ?_
          refine zv_ild hB zd268_28 rfl rfl ?_
          obtain ⟨c4, h⟩ := zi_if h
          refine zv_iald hB zd268_29 rfl rfl (zi_ix_ok c4).1 (zi_ix_ok c4).2 (fun _ _ => ?_)
          refine zv_con hB zd268_30 rfl ?_
          refine zv_addw hB zd268_31 ?_
          refine zv_ist hB zd268_32 rfl rfl rfl ?_
          obtain ⟨q10, hq10, h⟩ := zi_bind h
          refine l1 _ _ _ _ _ _ _ _ _ q10 hq10 ?_
          show good 72 [.inr 0, .inl x1, .inl x2, .inl x3, .inl q10, .inr 1000] [] [.inl f0, .inl f1, .inl f2, .inl f3] [g0, g1, g2, g3, g4, g5]
          refine zv_ild hB zd268_72 rfl rfl ?_
          refine zv_con hB zd268_74 rfl ?_
          refine zv_cne hB zd268_76 rfl (fun hc11 => ?_) (fun hc11 => ?_)
          · rw [if_neg hc11] at h
            refine zv_ald hB zd268_86 rfl rfl rfl ?_
            refine zv_getr hB zd268_87 rfl ?_
            refine zv_ild hB zd268_90 rfl rfl ?_
            refine zv_ild hB zd268_91 rfl rfl ?_
            refine zv_iast hB zd268_93 rfl rfl (zi_ix_ok c4).1 (zi_ix_ok c4).2 ?_
            refine zv_ild hB zd268_94 rfl rfl ?_
            refine zv_con hB zd268_95 rfl ?_
            refine zv_addw hB zd268_96 ?_
            refine zv_ald hB zd268_97 rfl rfl rfl ?_
            refine zv_getf hB zd268_98 rfl rfl (fun _ _ => ?_)
            refine zv_cge hB zd268_101 rfl (fun hc12 => ?_) (fun hc12 => ?_)
            · rw [if_neg (Int.not_lt.mpr hc12)] at h
              refine zv_ild hB zd268_118 rfl rfl ?_
              refine zv_zne hB zd268_119 rfl (fun hc13 => ?_) (fun hc13 => ?_)
              · rw [if_neg hc13] at h
                refine zv_ild hB zd268_159 rfl rfl ?_
                refine zv_con hB zd268_160 rfl ?_
                refine zv_addw hB zd268_161 ?_
                refine zv_ist hB zd268_162 rfl rfl rfl ?_
                refine zv_goto hB zd268_163 rfl ?_
                refine zv_wk hB (L' := [.inr 0, .inl x1, .inl (zi_w (x2 + 1)), .inl x3, .inr 1000, .inr 1000]) (F' := [.inl f0, .inl f1, .inl f2, .inl f3]) ⟨fun _ => rfl, fun _ => rfl, fun _ => rfl, fun _ => rfl, fun (h : zv_is (.inr 1000)) => (Nat.lt_irrefl 1000 h).elim, fun (h : zv_is (.inr 1000)) => (Nat.lt_irrefl 1000 h).elim, trivial⟩ ⟨fun _ => rfl, fun _ => rfl, fun _ => rfl, fun _ => rfl, trivial⟩ ?_
                exact ih _ _ _ _ _ _ _ q h hK
              · rw [if_pos hc13] at h
                refine zv_con hB zd268_122 rfl ?_
                refine zv_ist hB zd268_123 rfl rfl rfl ?_
                obtain ⟨q17, hq17, h⟩ := zi_bind h
                refine zv_wk hB (L' := [.inr 0, .inl x1, .inl x2, .inl x3, .inr 1000, .inl 0]) (F' := [.inl f0, .inl f1, .inl f2, .inl f3]) ⟨fun _ => rfl, fun _ => rfl, fun _ => rfl, fun _ => rfl, fun (h : zv_is (.inr 1000)) => (Nat.lt_irrefl 1000 h).elim, fun _ => rfl, trivial⟩ ⟨fun _ => rfl, fun _ => rfl, fun _ => rfl, fun _ => rfl, trivial⟩ ?_
                refine l2 _ _ _ _ _ _ _ _ _ q17 hq17 ?_
                show good 159 [.inr 0, .inl x1, .inl x2, .inl x3, .inr 1000, .inr 1000] [] [.inl f0, .inl f1, .inl f2, .inl f3] [g0, (zv_up g1 x3 q10), g2, g3, g4, q17]
                refine zv_ild hB zd268_159 rfl rfl ?_
                refine zv_con hB zd268_160 rfl ?_
                refine zv_addw hB zd268_161 ?_
                refine zv_ist hB zd268_162 rfl rfl rfl ?_
                refine zv_goto hB zd268_163 rfl ?_
                exact ih _ _ _ _ _ _ _ q h hK
            · rw [if_pos hc12] at h
              refine zv_ild hB zd268_104 rfl rfl ?_
              refine zv_con hB zd268_105 rfl ?_
              refine zv_addw hB zd268_106 ?_
              refine zv_ist hB zd268_107 rfl rfl rfl ?_
              refine zv_ald hB zd268_108 rfl rfl rfl ?_
              refine zv_getr hB zd268_109 rfl ?_
              refine zv_ild hB zd268_112 rfl rfl ?_
              refine zv_con hB zd268_113 rfl ?_
              obtain ⟨c18, h⟩ := zi_if h
              refine zv_iast hB zd268_114 rfl rfl (zi_ix_ok c18).1 (zi_ix_ok c18).2 ?_
              refine zv_goto hB zd268_115 rfl ?_
              refine zv_wk hB (L' := [.inr 0, .inl x1, .inl x2, .inl (zi_w (x3 + 1)), .inr 1000, .inr 1000]) (F' := [.inl f0, .inl f1, .inl f2, .inl f3]) ⟨fun _ => rfl, fun _ => rfl, fun _ => rfl, fun _ => rfl, fun (h : zv_is (.inr 1000)) => (Nat.lt_irrefl 1000 h).elim, fun (h : zv_is (.inr 1000)) => (Nat.lt_irrefl 1000 h).elim, trivial⟩ ⟨fun _ => rfl, fun _ => rfl, fun _ => rfl, fun _ => rfl, trivial⟩ ?_
              exact ih _ _ _ _ _ _ _ q h hK
          · rw [if_pos hc11] at h
            refine zv_ild hB zd268_79 rfl rfl ?_
            refine zv_con hB zd268_80 rfl ?_
            refine zv_subw hB zd268_81 ?_
            refine zv_ist hB zd268_82 rfl rfl rfl ?_
            refine zv_goto hB zd268_83 rfl ?_
            refine zv_wk hB (L' := [.inr 0, .inl x1, .inl x2, .inl (zi_w (x3 - 1)), .inr 1000, .inr 1000]) (F' := [.inl f0, .inl f1, .inl f2, .inl f3]) ⟨fun _ => rfl, fun _ => rfl, fun _ => rfl, fun _ => rfl, fun (h : zv_is (.inr 1000)) => (Nat.lt_irrefl 1000 h).elim, fun (h : zv_is (.inr 1000)) => (Nat.lt_irrefl 1000 h).elim, trivial⟩ ⟨fun _ => rfl, fun _ => rfl, fun _ => rfl, fun _ => rfl, trivial⟩ ?_
            exact ih _ _ _ _ _ _ _ q h hK
  unfold zf_M_ways at h
  refine zv_ald hB zd268_0 rfl rfl rfl ?_
  obtain ⟨r1, hr1, h⟩ := zi_bind h
  refine zv_cv hB (zv_emq (va2 := [.inr 0]) (F := [.inl f0, .inl f1, .inl f2, .inl f3]) (F' := [.inl r1.1, .inl f1, .inl f2, .inl f3]) (G := [g0, g1, g2, g3, g4, g5]) (G' := [r1.2, g1, g2, g3, g4, g5]) (ρ := [0, 1]) (φ := [0, 1]) (ψ := [0]) [some 0, some 1, none, none] [some 0, none, none, none, none, none] zyw_M_laysNames zyw_M_ways zye_M_ways (by decide +kernel) (zt_M_laysNames hr1) ⟨⟨_, rfl, fun _ => rfl⟩, ⟨_, rfl, fun _ => rfl⟩, trivial⟩ ⟨rfl, trivial⟩ rfl rfl rfl rfl rfl rfl rfl) zd268_1 zxt269 rfl (by decide) (by decide) rfl ?_
  refine zv_con hB zd268_4 rfl ?_
  refine zv_ist hB zd268_5 rfl rfl rfl ?_
  refine zv_con hB zd268_6 rfl ?_
  refine zv_ist hB zd268_7 rfl rfl rfl ?_
  refine zv_ald hB zd268_8 rfl rfl rfl ?_
  refine zv_getr hB zd268_9 rfl ?_
  refine zv_con hB zd268_12 rfl ?_
  refine zv_con hB zd268_13 rfl ?_
  refine zv_iast hB zd268_14 rfl rfl (by decide) (by decide) ?_
  obtain ⟨q19, hq19, h⟩ := zi_bind h
  refine l0 _ _ _ _ _ _ _ _ q19 hq19 ?_
  show good 166 [.inr 1000, .inr 1000, .inl q19.1, .inr 1000, .inr 1000, .inr 1000] [] [.inl r1.1, .inl f1, .inl f2, .inl f3] [r1.2, q19.2.1, g2, g3, g4, q19.2.2]
  refine zv_ild hB zd268_166 rfl rfl ?_
  have hw := Option.some.inj h
  subst hw
  exact hret _ _ _ _ _ zd268_167 (by trivial) ⟨rfl, rfl, rfl⟩
end
section
/-! Methods as functions, and that they do what these do. -/
/-! M_matched (III)I -/
-- names: 0 StarTalesModel('arg', 0), 1 (0, 422)(0, 12, 0), 2 (0, 14)(0, 12, 21), 3 (0, 13)(0, 12, 26), 4 (0, 14)(0, 12, 23), 5 (0, 14)(0, 12, 24), 6 (0, 220)(0, 12, 20), 7 (0, 220)(0, 12, 25), 8 (0, 24)(0, 12, 28), 9 (0, 8)(0, 12, 38), 10 (0, 8)(0, 12, 39), 11 (0, 12)(0, 12, 34), 12 (0, 12)(0, 12, 35), 13 (0, 8)(0, 12, 40)
-- fields: f0 = 0.taleLines_, f1 = 0.clauses_, f2 = 0.seen0_, f3 = 0.namesIn_, f4 = 0.nameMany_; arrays: g0 = 1, g1 = 2, g2 = 3, g3 = 4, g4 = 5, g5 = 6, g6 = 7, g7 = 8, g8 = 9, g9 = 10, g10 = 11, g11 = 12, g12 = 13; out: [('ret', None), ('f', 2), ('f', 4), ('g', 2), ('g', 6), ('g', 7), ('g', 8), ('g', 9), ('g', 12)]
abbrev zy_M_matched : zNL := (14, [(0, 12)], [(0, 12, 31, 0), (0, 12, 13, 1), (0, 12, 27, 2), (0, 12, 33, 3), (0, 12, 41, 4)], [(0, 12, 0, 1), (0, 12, 21, 2), (0, 12, 26, 3), (0, 12, 23, 4), (0, 12, 24, 5), (0, 12, 20, 6), (0, 12, 25, 7), (0, 12, 28, 8), (0, 12, 38, 9), (0, 12, 39, 10), (0, 12, 34, 11), (0, 12, 35, 12), (0, 12, 40, 13)], [(1, 0, 422, 0), (2, 0, 14, 1), (3, 0, 13, 2), (4, 0, 14, 3), (5, 0, 14, 4), (6, 0, 220, 5), (7, 0, 220, 6), (8, 0, 24, 7), (9, 0, 8, 8), (10, 0, 8, 9), (11, 0, 12, 10), (12, 0, 12, 11), (13, 0, 8, 12)])
theorem zyw_M_matched : zv_wf zy_M_matched = true := by decide +kernel
theorem zye_M_matched : zv_ek2 zy_M_matched = true := by decide +kernel
def zf_M_matched (x1 : Int) (x2 : Int) (x3 : Int) (f0 : Int) (f1 : Int) (f2 : Int) (f3 : Int) (f4 : Int) (g0 : (Int → Int)) (g1 : (Int → Int)) (g2 : (Int → Int)) (g3 : (Int → Int)) (g4 : (Int → Int)) (g5 : (Int → Int)) (g6 : (Int → Int)) (g7 : (Int → Int)) (g8 : (Int → Int)) (g9 : (Int → Int)) (g10 : (Int → Int)) (g11 : (Int → Int)) (g12 : (Int → Int)) : Option (Int × Int × Int × (Int → Int) × (Int → Int) × (Int → Int) × (Int → Int) × (Int → Int) × (Int → Int)) := (zf_M_isPlace x1 x2).bind fun r1 => (if r1 = 0 then (some ((-3), f2, f4, g2, g6, g7, g8, g9, g12)) else ((zf_M_in x3 (-1) 7).bind fun r3 => (if r3 = 0 then (some ((-3), f2, f4, g2, g6, g7, g8, g9, g12)) else (if f0 = 0 then (some ((-2), f2, f4, g2, g6, g7, g8, g9, g12)) else ((zf_M_looks (zi_w ((zi_w (24 * x2)) + x1)) f1 f2 g0 g1 g2 g3 g4 g5 g6 g7).bind fun r6 => (if x3 = (-1) then ((zf_M_ways 10000 f4 f3 r6.1 f0 g8 g9 g10 g11 r6.2.2.2 g12).bind fun r13 => (some (r13.1, r6.1, r13.2.1, r6.2.1, r6.2.2.1, r6.2.2.2, r13.2.2.1, r13.2.2.2.1, r13.2.2.2.2))) else ((zf_M_has f3 x3).bind fun r8 => (if r8 = 0 then (some ((-2), r6.1, f4, r6.2.1, r6.2.2.1, r6.2.2.2, g8, g9, g12)) else ((zf_M_ways 1 f4 f3 r6.1 f0 g8 g9 g10 g11 r6.2.2.2 g12).bind fun r10 => (if 0 < r10.1 then (cond (zi_ix x3 8) (some ((r10.2.2.2.2 x3), r6.1, r10.2.1, r6.2.1, r6.2.2.1, r6.2.2.2, r10.2.2.1, r10.2.2.2.1, r10.2.2.2.2)) none) else (some ((-2), r6.1, r10.2.1, r6.2.1, r6.2.2.1, r6.2.2.2, r10.2.2.1, r10.2.2.2.1, r10.2.2.2.2))))))))))))
theorem zd267_0 : decode zxm267.2.1 0 = .ok (.iload_n 1, 1) := by decide +kernel
theorem zd267_1 : decode zxm267.2.1 1 = .ok (.iload_n 2, 1) := by decide +kernel
theorem zd267_2 : decode zxm267.2.1 2 = .ok (.invokestatic 154, 3) := by decide +kernel
theorem zd267_5 : decode zxm267.2.1 5 = .ok (.ifCond .eq 13, 3) := by decide +kernel
theorem zd267_8 : decode zxm267.2.1 8 = .ok (.iload_n 3, 1) := by decide +kernel
theorem zd267_9 : decode zxm267.2.1 9 = .ok (.iconst (-1), 1) := by decide +kernel
theorem zd267_10 : decode zxm267.2.1 10 = .ok (.bipush 7, 2) := by decide +kernel
theorem zd267_12 : decode zxm267.2.1 12 = .ok (.invokestatic 150, 3) := by decide +kernel
theorem zd267_15 : decode zxm267.2.1 15 = .ok (.ifCond .ne 6, 3) := by decide +kernel
theorem zd267_18 : decode zxm267.2.1 18 = .ok (.bipush (-3), 2) := by decide +kernel
theorem zd267_20 : decode zxm267.2.1 20 = .ok (.ireturn, 1) := by decide +kernel
theorem zd267_21 : decode zxm267.2.1 21 = .ok (.aload_n 0, 1) := by decide +kernel
theorem zd267_22 : decode zxm267.2.1 22 = .ok (.getfield 351, 3) := by decide +kernel
theorem zd267_25 : decode zxm267.2.1 25 = .ok (.ifCond .ne 6, 3) := by decide +kernel
theorem zd267_28 : decode zxm267.2.1 28 = .ok (.bipush (-2), 2) := by decide +kernel
theorem zd267_30 : decode zxm267.2.1 30 = .ok (.ireturn, 1) := by decide +kernel
theorem zd267_31 : decode zxm267.2.1 31 = .ok (.aload_n 0, 1) := by decide +kernel
theorem zd267_32 : decode zxm267.2.1 32 = .ok (.bipush 24, 2) := by decide +kernel
theorem zd267_34 : decode zxm267.2.1 34 = .ok (.iload_n 2, 1) := by decide +kernel
theorem zd267_35 : decode zxm267.2.1 35 = .ok (.imul, 1) := by decide +kernel
theorem zd267_36 : decode zxm267.2.1 36 = .ok (.iload_n 1, 1) := by decide +kernel
theorem zd267_37 : decode zxm267.2.1 37 = .ok (.iadd, 1) := by decide +kernel
theorem zd267_38 : decode zxm267.2.1 38 = .ok (.invokevirtual 309, 3) := by decide +kernel
theorem zd267_41 : decode zxm267.2.1 41 = .ok (.iload_n 3, 1) := by decide +kernel
theorem zd267_42 : decode zxm267.2.1 42 = .ok (.iconst (-1), 1) := by decide +kernel
theorem zd267_43 : decode zxm267.2.1 43 = .ok (.if_icmp .ne 11, 3) := by decide +kernel
theorem zd267_46 : decode zxm267.2.1 46 = .ok (.aload_n 0, 1) := by decide +kernel
theorem zd267_47 : decode zxm267.2.1 47 = .ok (.sipush 10000, 3) := by decide +kernel
theorem zd267_50 : decode zxm267.2.1 50 = .ok (.invokevirtual 366, 3) := by decide +kernel
theorem zd267_53 : decode zxm267.2.1 53 = .ok (.ireturn, 1) := by decide +kernel
theorem zd267_54 : decode zxm267.2.1 54 = .ok (.aload_n 0, 1) := by decide +kernel
theorem zd267_55 : decode zxm267.2.1 55 = .ok (.getfield 354, 3) := by decide +kernel
theorem zd267_58 : decode zxm267.2.1 58 = .ok (.iload_n 3, 1) := by decide +kernel
theorem zd267_59 : decode zxm267.2.1 59 = .ok (.invokestatic 138, 3) := by decide +kernel
theorem zd267_62 : decode zxm267.2.1 62 = .ok (.ifCond .eq 20, 3) := by decide +kernel
theorem zd267_65 : decode zxm267.2.1 65 = .ok (.aload_n 0, 1) := by decide +kernel
theorem zd267_66 : decode zxm267.2.1 66 = .ok (.iconst 1, 1) := by decide +kernel
theorem zd267_67 : decode zxm267.2.1 67 = .ok (.invokevirtual 366, 3) := by decide +kernel
theorem zd267_70 : decode zxm267.2.1 70 = .ok (.ifCond .le 12, 3) := by decide +kernel
theorem zd267_73 : decode zxm267.2.1 73 = .ok (.aload_n 0, 1) := by decide +kernel
theorem zd267_74 : decode zxm267.2.1 74 = .ok (.getfield 83, 3) := by decide +kernel
theorem zd267_77 : decode zxm267.2.1 77 = .ok (.iload_n 3, 1) := by decide +kernel
theorem zd267_78 : decode zxm267.2.1 78 = .ok (.iaload, 1) := by decide +kernel
theorem zd267_79 : decode zxm267.2.1 79 = .ok (.goto 5, 3) := by decide +kernel
theorem zd267_82 : decode zxm267.2.1 82 = .ok (.bipush (-2), 2) := by decide +kernel
theorem zd267_84 : decode zxm267.2.1 84 = .ok (.ireturn, 1) := by decide +kernel
theorem zt_M_matched {x1 : Int} {x2 : Int} {x3 : Int} {f0 : Int} {f1 : Int} {f2 : Int} {f3 : Int} {f4 : Int} {g0 : (Int → Int)} {g1 : (Int → Int)} {g2 : (Int → Int)} {g3 : (Int → Int)} {g4 : (Int → Int)} {g5 : (Int → Int)} {g6 : (Int → Int)} {g7 : (Int → Int)} {g8 : (Int → Int)} {g9 : (Int → Int)} {g10 : (Int → Int)} {g11 : (Int → Int)} {g12 : (Int → Int)} {o : Int × Int × Int × (Int → Int) × (Int → Int) × (Int → Int) × (Int → Int) × (Int → Int) × (Int → Int)} (h : zf_M_matched x1 x2 x3 f0 f1 f2 f3 f4 g0 g1 g2 g3 g4 g5 g6 g7 g8 g9 g10 g11 g12 = some o) : zv_Fn z_TB z_cl z_KX zy_M_matched zxm267 (6, 360) [.inr 0, .inl x1, .inl x2, .inl x3] [.inl f0, .inl f1, .inl f2, .inl f3, .inl f4] [g0, g1, g2, g3, g4, g5, g6, g7, g8, g9, g10, g11, g12] (some o.1) [.inl f0, .inl f1, .inl o.2.1, .inl f3, .inl o.2.2.1] [g0, g1, o.2.2.2.1, g3, g4, g5, o.2.2.2.2.1, o.2.2.2.2.2.1, o.2.2.2.2.2.2.1, o.2.2.2.2.2.2.2.1, g10, g11, o.2.2.2.2.2.2.2.2] := zv_meth (K := (z_KF13, z_KC13, z_KL13, z_KT13, [], [], [], none)) (FT := z_FT) (MT := z_MT) (n := 4) zxp267 (z_ks13 _ (fun _ h => List.mem_cons_of_mem _ h) _ _ _ _ (fun j r h _ => by cases h)) (fun _ _ => zs_KX_p) zyw_M_matched (fun va F G h => by obtain ⟨rfl, _⟩ := h; rfl) (fun va F G h => by obtain ⟨rfl, _⟩ := h; rfl) rfl fun good va F G hB hret hvret hP => by
  obtain ⟨rfl, rfl, rfl⟩ := hP
  unfold zf_M_matched at h
  refine zv_ild hB zd267_0 rfl rfl ?_
  refine zv_ild hB zd267_1 rfl rfl ?_
  obtain ⟨r1, hr1, h⟩ := zi_bind h
  refine zv_cs hB (zv_emq (va2 := [.inl x1, .inl x2]) (F := [.inl f0, .inl f1, .inl f2, .inl f3, .inl f4]) (F' := [.inl f0, .inl f1, .inl f2, .inl f3, .inl f4]) (G := [g0, g1, g2, g3, g4, g5, g6, g7, g8, g9, g10, g11, g12]) (G' := [g0, g1, g2, g3, g4, g5, g6, g7, g8, g9, g10, g11, g12]) (ρ := []) (φ := []) (ψ := []) [none, none, none, none, none] [none, none, none, none, none, none, none, none, none, none, none, none, none] zyw_M_isPlace zyw_M_matched zye_M_matched (by decide +kernel) (zt_M_isPlace hr1) trivial trivial rfl rfl rfl rfl rfl rfl rfl) zd267_2 zxt201 rfl (by decide) (by decide) rfl ?_
  refine zv_zeq hB zd267_5 rfl (fun hc2 => ?_) (fun hc2 => ?_)
  · rw [if_pos hc2] at h
    refine zv_con hB zd267_18 rfl ?_
    have hw := Option.some.inj h
    subst hw
    exact hret _ _ _ _ _ zd267_20 (by trivial) ⟨rfl, rfl, rfl⟩
  · rw [if_neg hc2] at h
    refine zv_ild hB zd267_8 rfl rfl ?_
    refine zv_con hB zd267_9 rfl ?_
    refine zv_con hB zd267_10 rfl ?_
    obtain ⟨r3, hr3, h⟩ := zi_bind h
    refine zv_cs hB (zv_emq (va2 := [.inl x3, .inl (-1), .inl 7]) (F := [.inl f0, .inl f1, .inl f2, .inl f3, .inl f4]) (F' := [.inl f0, .inl f1, .inl f2, .inl f3, .inl f4]) (G := [g0, g1, g2, g3, g4, g5, g6, g7, g8, g9, g10, g11, g12]) (G' := [g0, g1, g2, g3, g4, g5, g6, g7, g8, g9, g10, g11, g12]) (ρ := []) (φ := []) (ψ := []) [none, none, none, none, none] [none, none, none, none, none, none, none, none, none, none, none, none, none] zyw_M_in zyw_M_matched zye_M_matched (by decide +kernel) (zt_M_in hr3) trivial trivial rfl rfl rfl rfl rfl rfl rfl) zd267_12 zxt200 rfl (by decide) (by decide) rfl ?_
    refine zv_zne hB zd267_15 rfl (fun hc4 => ?_) (fun hc4 => ?_)
    · rw [if_neg hc4] at h
      refine zv_ald hB zd267_21 rfl rfl rfl ?_
      refine zv_getf hB zd267_22 rfl rfl (fun _ _ => ?_)
      refine zv_zne hB zd267_25 rfl (fun hc5 => ?_) (fun hc5 => ?_)
      · rw [if_neg hc5] at h
        refine zv_ald hB zd267_31 rfl rfl rfl ?_
        refine zv_con hB zd267_32 rfl ?_
        refine zv_ild hB zd267_34 rfl rfl ?_
        refine zv_mulw hB zd267_35 ?_
        refine zv_ild hB zd267_36 rfl rfl ?_
        refine zv_addw hB zd267_37 ?_
        obtain ⟨r6, hr6, h⟩ := zi_bind h
        refine zv_cv hB (zv_emq (va2 := [.inr 0, .inl (zi_w ((zi_w (24 * x2)) + x1))]) (F := [.inl f0, .inl f1, .inl f2, .inl f3, .inl f4]) (F' := [.inl f0, .inl f1, .inl r6.1, .inl f3, .inl f4]) (G := [g0, g1, g2, g3, g4, g5, g6, g7, g8, g9, g10, g11, g12]) (G' := [g0, g1, r6.2.1, g3, g4, g5, r6.2.2.1, r6.2.2.2, g8, g9, g10, g11, g12]) (ρ := [0, 1, 2, 3, 4, 5, 6, 7, 8]) (φ := [1, 2]) (ψ := [0, 1, 2, 3, 4, 5, 6, 7]) [none, some 0, some 1, none, none] [some 0, some 1, some 2, some 3, some 4, some 5, some 6, some 7, none, none, none, none, none] zyw_M_looks zyw_M_matched zye_M_matched (by decide +kernel) (zt_M_looks hr6) ⟨⟨_, rfl, fun _ => rfl⟩, ⟨_, rfl, fun _ => rfl⟩, trivial⟩ ⟨rfl, rfl, rfl, rfl, rfl, rfl, rfl, rfl, trivial⟩ rfl rfl rfl rfl rfl rfl rfl) zd267_38 zxt252 rfl (by decide) (by decide) rfl ?_
        refine zv_ild hB zd267_41 rfl rfl ?_
        refine zv_con hB zd267_42 rfl ?_
        refine zv_cne hB zd267_43 rfl (fun hc7 => ?_) (fun hc7 => ?_)
        · rw [if_neg hc7] at h
          refine zv_ald hB zd267_54 rfl rfl rfl ?_
          refine zv_getf hB zd267_55 rfl rfl (fun _ _ => ?_)
          refine zv_ild hB zd267_58 rfl rfl ?_
          obtain ⟨r8, hr8, h⟩ := zi_bind h
          refine zv_cs hB (zv_emq (va2 := [.inl f3, .inl x3]) (F := [.inl f0, .inl f1, .inl r6.1, .inl f3, .inl f4]) (F' := [.inl f0, .inl f1, .inl r6.1, .inl f3, .inl f4]) (G := [g0, g1, r6.2.1, g3, g4, g5, r6.2.2.1, r6.2.2.2, g8, g9, g10, g11, g12]) (G' := [g0, g1, r6.2.1, g3, g4, g5, r6.2.2.1, r6.2.2.2, g8, g9, g10, g11, g12]) (ρ := []) (φ := []) (ψ := []) [none, none, none, none, none] [none, none, none, none, none, none, none, none, none, none, none, none, none] zyw_M_has zyw_M_matched zye_M_matched (by decide +kernel) (zt_M_has hr8) trivial trivial rfl rfl rfl rfl rfl rfl rfl) zd267_59 zxt204 rfl (by decide) (by decide) rfl ?_
          refine zv_zeq hB zd267_62 rfl (fun hc9 => ?_) (fun hc9 => ?_)
          · rw [if_pos hc9] at h
            refine zv_con hB zd267_82 rfl ?_
            have hw := Option.some.inj h
            subst hw
            exact hret _ _ _ _ _ zd267_84 (by trivial) ⟨rfl, rfl, rfl⟩
          · rw [if_neg hc9] at h
            refine zv_ald hB zd267_65 rfl rfl rfl ?_
            refine zv_con hB zd267_66 rfl ?_
            obtain ⟨r10, hr10, h⟩ := zi_bind h
            refine zv_cv hB (zv_emq (va2 := [.inr 0, .inl 1]) (F := [.inl f0, .inl f1, .inl r6.1, .inl f3, .inl f4]) (F' := [.inl f0, .inl f1, .inl r6.1, .inl f3, .inl r10.2.1]) (G := [g0, g1, r6.2.1, g3, g4, g5, r6.2.2.1, r6.2.2.2, g8, g9, g10, g11, g12]) (G' := [g0, g1, r6.2.1, g3, g4, g5, r6.2.2.1, r6.2.2.2, r10.2.2.1, r10.2.2.2.1, g10, g11, r10.2.2.2.2]) (ρ := [0, 9, 10, 11, 12, 8, 13]) (φ := [4, 3, 2, 0]) (ψ := [8, 9, 10, 11, 7, 12]) [some 3, none, some 2, some 1, some 0] [none, none, none, none, none, none, none, some 4, some 0, some 1, some 2, some 3, some 5] zyw_M_ways zyw_M_matched zye_M_matched (by decide +kernel) (zt_M_ways hr10) ⟨⟨_, rfl, fun _ => rfl⟩, ⟨_, rfl, fun _ => rfl⟩, ⟨_, rfl, fun _ => rfl⟩, ⟨_, rfl, fun _ => rfl⟩, trivial⟩ ⟨rfl, rfl, rfl, rfl, rfl, rfl, trivial⟩ rfl rfl rfl rfl rfl rfl rfl) zd267_67 zxt268 rfl (by decide) (by decide) rfl ?_
            refine zv_zle hB zd267_70 rfl (fun hc11 => ?_) (fun hc11 => ?_)
            · rw [if_neg (Int.not_lt.mpr hc11)] at h
              refine zv_con hB zd267_82 rfl ?_
              have hw := Option.some.inj h
              subst hw
              exact hret _ _ _ _ _ zd267_84 (by trivial) ⟨rfl, rfl, rfl⟩
            · rw [if_pos hc11] at h
              refine zv_ald hB zd267_73 rfl rfl rfl ?_
              refine zv_getr hB zd267_74 rfl ?_
              refine zv_ild hB zd267_77 rfl rfl ?_
              obtain ⟨c12, h⟩ := zi_if h
              refine zv_iald hB zd267_78 rfl rfl (zi_ix_ok c12).1 (zi_ix_ok c12).2 (fun _ _ => ?_)
              refine zv_goto hB zd267_79 rfl ?_
              have hw := Option.some.inj h
              subst hw
              exact hret _ _ _ _ _ zd267_84 (by trivial) ⟨rfl, rfl, rfl⟩
        · rw [if_pos hc7] at h
          refine zv_ald hB zd267_46 rfl rfl rfl ?_
          refine zv_con hB zd267_47 rfl ?_
          obtain ⟨r13, hr13, h⟩ := zi_bind h
          refine zv_cv hB (zv_emq (va2 := [.inr 0, .inl 10000]) (F := [.inl f0, .inl f1, .inl r6.1, .inl f3, .inl f4]) (F' := [.inl f0, .inl f1, .inl r6.1, .inl f3, .inl r13.2.1]) (G := [g0, g1, r6.2.1, g3, g4, g5, r6.2.2.1, r6.2.2.2, g8, g9, g10, g11, g12]) (G' := [g0, g1, r6.2.1, g3, g4, g5, r6.2.2.1, r6.2.2.2, r13.2.2.1, r13.2.2.2.1, g10, g11, r13.2.2.2.2]) (ρ := [0, 9, 10, 11, 12, 8, 13]) (φ := [4, 3, 2, 0]) (ψ := [8, 9, 10, 11, 7, 12]) [some 3, none, some 2, some 1, some 0] [none, none, none, none, none, none, none, some 4, some 0, some 1, some 2, some 3, some 5] zyw_M_ways zyw_M_matched zye_M_matched (by decide +kernel) (zt_M_ways hr13) ⟨⟨_, rfl, fun _ => rfl⟩, ⟨_, rfl, fun _ => rfl⟩, ⟨_, rfl, fun _ => rfl⟩, ⟨_, rfl, fun _ => rfl⟩, trivial⟩ ⟨rfl, rfl, rfl, rfl, rfl, rfl, trivial⟩ rfl rfl rfl rfl rfl rfl rfl) zd267_50 zxt268 rfl (by decide) (by decide) rfl ?_
          have hw := Option.some.inj h
          subst hw
          exact hret _ _ _ _ _ zd267_53 (by trivial) ⟨rfl, rfl, rfl⟩
      · rw [if_pos hc5] at h
        refine zv_con hB zd267_28 rfl ?_
        have hw := Option.some.inj h
        subst hw
        exact hret _ _ _ _ _ zd267_30 (by trivial) ⟨rfl, rfl, rfl⟩
    · rw [if_pos hc4] at h
      refine zv_con hB zd267_18 rfl ?_
      have hw := Option.some.inj h
      subst hw
      exact hret _ _ _ _ _ zd267_20 (by trivial) ⟨rfl, rfl, rfl⟩
/-! M_canBeTold (I)Z -/
-- names: 0 StarTalesModel('arg', 0), 1 (0, 422)(0, 12, 0), 2 (0, 14)(0, 12, 21), 3 (0, 13)(0, 12, 26), 4 (0, 14)(0, 12, 23), 5 (0, 14)(0, 12, 24), 6 (0, 220)(0, 12, 20), 7 (0, 220)(0, 12, 25), 8 (0, 24)(0, 12, 28), 9 (0, 8)(0, 12, 38), 10 (0, 8)(0, 12, 39), 11 (0, 12)(0, 12, 34), 12 (0, 12)(0, 12, 35), 13 (0, 8)(0, 12, 40)
-- fields: f0 = 0.clauses_, f1 = 0.seen0_, f2 = 0.nameMany_, f3 = 0.namesIn_, f4 = 0.taleLines_; arrays: g0 = 1, g1 = 2, g2 = 3, g3 = 4, g4 = 5, g5 = 6, g6 = 7, g7 = 8, g8 = 9, g9 = 10, g10 = 11, g11 = 12, g12 = 13; out: [('ret', None), ('f', 1), ('f', 2), ('g', 2), ('g', 6), ('g', 7), ('g', 8), ('g', 9), ('g', 12)]
abbrev zy_M_canBeTold : zNL := (14, [(0, 12)], [(0, 12, 13, 0), (0, 12, 27, 1), (0, 12, 41, 2), (0, 12, 33, 3), (0, 12, 31, 4)], [(0, 12, 0, 1), (0, 12, 21, 2), (0, 12, 26, 3), (0, 12, 23, 4), (0, 12, 24, 5), (0, 12, 20, 6), (0, 12, 25, 7), (0, 12, 28, 8), (0, 12, 38, 9), (0, 12, 39, 10), (0, 12, 34, 11), (0, 12, 35, 12), (0, 12, 40, 13)], [(1, 0, 422, 0), (2, 0, 14, 1), (3, 0, 13, 2), (4, 0, 14, 3), (5, 0, 14, 4), (6, 0, 220, 5), (7, 0, 220, 6), (8, 0, 24, 7), (9, 0, 8, 8), (10, 0, 8, 9), (11, 0, 12, 10), (12, 0, 12, 11), (13, 0, 8, 12)])
theorem zyw_M_canBeTold : zv_wf zy_M_canBeTold = true := by decide +kernel
theorem zye_M_canBeTold : zv_ek2 zy_M_canBeTold = true := by decide +kernel
def zf_M_canBeTold (x1 : Int) (f0 : Int) (f1 : Int) (f2 : Int) (f3 : Int) (f4 : Int) (g0 : (Int → Int)) (g1 : (Int → Int)) (g2 : (Int → Int)) (g3 : (Int → Int)) (g4 : (Int → Int)) (g5 : (Int → Int)) (g6 : (Int → Int)) (g7 : (Int → Int)) (g8 : (Int → Int)) (g9 : (Int → Int)) (g10 : (Int → Int)) (g11 : (Int → Int)) (g12 : (Int → Int)) : Option (Int × Int × Int × (Int → Int) × (Int → Int) × (Int → Int) × (Int → Int) × (Int → Int) × (Int → Int)) := (zf_M_looks x1 f0 f1 g0 g1 g2 g3 g4 g5 g6 g7).bind fun r1 => ((zf_M_ways 1 f2 f3 r1.1 f4 g8 g9 g10 g11 r1.2.2.2 g12).bind fun r2 => (if 0 < r2.1 then (some (1, r1.1, r2.2.1, r1.2.1, r1.2.2.1, r1.2.2.2, r2.2.2.1, r2.2.2.2.1, r2.2.2.2.2)) else (some (0, r1.1, r2.2.1, r1.2.1, r1.2.2.1, r1.2.2.2, r2.2.2.1, r2.2.2.2.1, r2.2.2.2.2))))
theorem zd272_0 : decode zxm272.2.1 0 = .ok (.aload_n 0, 1) := by decide +kernel
theorem zd272_1 : decode zxm272.2.1 1 = .ok (.iload_n 1, 1) := by decide +kernel
theorem zd272_2 : decode zxm272.2.1 2 = .ok (.invokevirtual 309, 3) := by decide +kernel
theorem zd272_5 : decode zxm272.2.1 5 = .ok (.aload_n 0, 1) := by decide +kernel
theorem zd272_6 : decode zxm272.2.1 6 = .ok (.iconst 1, 1) := by decide +kernel
theorem zd272_7 : decode zxm272.2.1 7 = .ok (.invokevirtual 366, 3) := by decide +kernel
theorem zd272_10 : decode zxm272.2.1 10 = .ok (.ifCond .le 7, 3) := by decide +kernel
theorem zd272_13 : decode zxm272.2.1 13 = .ok (.iconst 1, 1) := by decide +kernel
theorem zd272_14 : decode zxm272.2.1 14 = .ok (.goto 4, 3) := by decide +kernel
theorem zd272_17 : decode zxm272.2.1 17 = .ok (.iconst 0, 1) := by decide +kernel
theorem zd272_18 : decode zxm272.2.1 18 = .ok (.ireturn, 1) := by decide +kernel
theorem zt_M_canBeTold {x1 : Int} {f0 : Int} {f1 : Int} {f2 : Int} {f3 : Int} {f4 : Int} {g0 : (Int → Int)} {g1 : (Int → Int)} {g2 : (Int → Int)} {g3 : (Int → Int)} {g4 : (Int → Int)} {g5 : (Int → Int)} {g6 : (Int → Int)} {g7 : (Int → Int)} {g8 : (Int → Int)} {g9 : (Int → Int)} {g10 : (Int → Int)} {g11 : (Int → Int)} {g12 : (Int → Int)} {o : Int × Int × Int × (Int → Int) × (Int → Int) × (Int → Int) × (Int → Int) × (Int → Int) × (Int → Int)} (h : zf_M_canBeTold x1 f0 f1 f2 f3 f4 g0 g1 g2 g3 g4 g5 g6 g7 g8 g9 g10 g11 g12 = some o) : zv_Fn z_TB z_cl z_KX zy_M_canBeTold zxm272 (6, 360) [.inr 0, .inl x1] [.inl f0, .inl f1, .inl f2, .inl f3, .inl f4] [g0, g1, g2, g3, g4, g5, g6, g7, g8, g9, g10, g11, g12] (some o.1) [.inl f0, .inl o.2.1, .inl o.2.2.1, .inl f3, .inl f4] [g0, g1, o.2.2.2.1, g3, g4, g5, o.2.2.2.2.1, o.2.2.2.2.2.1, o.2.2.2.2.2.2.1, o.2.2.2.2.2.2.2.1, g10, g11, o.2.2.2.2.2.2.2.2] := zv_meth (K := (z_KF13, z_KC13, z_KL13, z_KT13, [], [], [], none)) (FT := z_FT) (MT := z_MT) (n := 2) zxp272 (z_ks13 _ (fun _ h => List.mem_cons_of_mem _ h) _ _ _ _ (fun j r h _ => by cases h)) (fun _ _ => zs_KX_p) zyw_M_canBeTold (fun va F G h => by obtain ⟨rfl, _⟩ := h; rfl) (fun va F G h => by obtain ⟨rfl, _⟩ := h; rfl) rfl fun good va F G hB hret hvret hP => by
  obtain ⟨rfl, rfl, rfl⟩ := hP
  unfold zf_M_canBeTold at h
  refine zv_ald hB zd272_0 rfl rfl rfl ?_
  refine zv_ild hB zd272_1 rfl rfl ?_
  obtain ⟨r1, hr1, h⟩ := zi_bind h
  refine zv_cv hB (zv_emq (va2 := [.inr 0, .inl x1]) (F := [.inl f0, .inl f1, .inl f2, .inl f3, .inl f4]) (F' := [.inl f0, .inl r1.1, .inl f2, .inl f3, .inl f4]) (G := [g0, g1, g2, g3, g4, g5, g6, g7, g8, g9, g10, g11, g12]) (G' := [g0, g1, r1.2.1, g3, g4, g5, r1.2.2.1, r1.2.2.2, g8, g9, g10, g11, g12]) (ρ := [0, 1, 2, 3, 4, 5, 6, 7, 8]) (φ := [0, 1]) (ψ := [0, 1, 2, 3, 4, 5, 6, 7]) [some 0, some 1, none, none, none] [some 0, some 1, some 2, some 3, some 4, some 5, some 6, some 7, none, none, none, none, none] zyw_M_looks zyw_M_canBeTold zye_M_canBeTold (by decide +kernel) (zt_M_looks hr1) ⟨⟨_, rfl, fun _ => rfl⟩, ⟨_, rfl, fun _ => rfl⟩, trivial⟩ ⟨rfl, rfl, rfl, rfl, rfl, rfl, rfl, rfl, trivial⟩ rfl rfl rfl rfl rfl rfl rfl) zd272_2 zxt252 rfl (by decide) (by decide) rfl ?_
  refine zv_ald hB zd272_5 rfl rfl rfl ?_
  refine zv_con hB zd272_6 rfl ?_
  obtain ⟨r2, hr2, h⟩ := zi_bind h
  refine zv_cv hB (zv_emq (va2 := [.inr 0, .inl 1]) (F := [.inl f0, .inl r1.1, .inl f2, .inl f3, .inl f4]) (F' := [.inl f0, .inl r1.1, .inl r2.2.1, .inl f3, .inl f4]) (G := [g0, g1, r1.2.1, g3, g4, g5, r1.2.2.1, r1.2.2.2, g8, g9, g10, g11, g12]) (G' := [g0, g1, r1.2.1, g3, g4, g5, r1.2.2.1, r1.2.2.2, r2.2.2.1, r2.2.2.2.1, g10, g11, r2.2.2.2.2]) (ρ := [0, 9, 10, 11, 12, 8, 13]) (φ := [2, 3, 1, 4]) (ψ := [8, 9, 10, 11, 7, 12]) [none, some 2, some 0, some 1, some 3] [none, none, none, none, none, none, none, some 4, some 0, some 1, some 2, some 3, some 5] zyw_M_ways zyw_M_canBeTold zye_M_canBeTold (by decide +kernel) (zt_M_ways hr2) ⟨⟨_, rfl, fun _ => rfl⟩, ⟨_, rfl, fun _ => rfl⟩, ⟨_, rfl, fun _ => rfl⟩, ⟨_, rfl, fun _ => rfl⟩, trivial⟩ ⟨rfl, rfl, rfl, rfl, rfl, rfl, trivial⟩ rfl rfl rfl rfl rfl rfl rfl) zd272_7 zxt268 rfl (by decide) (by decide) rfl ?_
  refine zv_zle hB zd272_10 rfl (fun hc3 => ?_) (fun hc3 => ?_)
  · rw [if_neg (Int.not_lt.mpr hc3)] at h
    refine zv_con hB zd272_17 rfl ?_
    have hw := Option.some.inj h
    subst hw
    exact hret _ _ _ _ _ zd272_18 (by constructor <;> decide) ⟨rfl, rfl, rfl⟩
  · rw [if_pos hc3] at h
    refine zv_con hB zd272_13 rfl ?_
    refine zv_goto hB zd272_14 rfl ?_
    have hw := Option.some.inj h
    subst hw
    exact hret _ _ _ _ _ zd272_18 (by constructor <;> decide) ⟨rfl, rfl, rfl⟩
/-! M_where (I)I -/
-- names: 0 StarTalesModel('arg', 0), 1 (0, 422)(0, 12, 0), 2 (0, 14)(0, 12, 21), 3 (0, 13)(0, 12, 26), 4 (0, 14)(0, 12, 23), 5 (0, 14)(0, 12, 24), 6 (0, 220)(0, 12, 20), 7 (0, 220)(0, 12, 25), 8 (0, 24)(0, 12, 28), 9 (0, 8)(0, 12, 38), 10 (0, 8)(0, 12, 39), 11 (0, 12)(0, 12, 34), 12 (0, 12)(0, 12, 35), 13 (0, 8)(0, 12, 40)
-- fields: f0 = 0.taleLines_, f1 = 0.clauses_, f2 = 0.seen0_, f3 = 0.nameMany_, f4 = 0.namesIn_; arrays: g0 = 1, g1 = 2, g2 = 3, g3 = 4, g4 = 5, g5 = 6, g6 = 7, g7 = 8, g8 = 9, g9 = 10, g10 = 11, g11 = 12, g12 = 13; out: [('ret', None), ('f', 2), ('f', 3), ('g', 2), ('g', 6), ('g', 7), ('g', 8), ('g', 9), ('g', 12)]
abbrev zy_M_where : zNL := (14, [(0, 12)], [(0, 12, 31, 0), (0, 12, 13, 1), (0, 12, 27, 2), (0, 12, 41, 3), (0, 12, 33, 4)], [(0, 12, 0, 1), (0, 12, 21, 2), (0, 12, 26, 3), (0, 12, 23, 4), (0, 12, 24, 5), (0, 12, 20, 6), (0, 12, 25, 7), (0, 12, 28, 8), (0, 12, 38, 9), (0, 12, 39, 10), (0, 12, 34, 11), (0, 12, 35, 12), (0, 12, 40, 13)], [(1, 0, 422, 0), (2, 0, 14, 1), (3, 0, 13, 2), (4, 0, 14, 3), (5, 0, 14, 4), (6, 0, 220, 5), (7, 0, 220, 6), (8, 0, 24, 7), (9, 0, 8, 8), (10, 0, 8, 9), (11, 0, 12, 10), (12, 0, 12, 11), (13, 0, 8, 12)])
theorem zyw_M_where : zv_wf zy_M_where = true := by decide +kernel
theorem zye_M_where : zv_ek2 zy_M_where = true := by decide +kernel
def zf_M_where_l0_b (f0 : Int) (f1 : Int) (f4 : Int) (g0 : (Int → Int)) (g1 : (Int → Int)) (g3 : (Int → Int)) (g4 : (Int → Int)) (g5 : (Int → Int)) (g10 : (Int → Int)) (g11 : (Int → Int)) (rec : Int → Int → Int → Int → Int → (Int → Int) → (Int → Int) → (Int → Int) → (Int → Int) → (Int → Int) → (Int → Int) → Option (Int × Int × Int × Int × (Int → Int) × (Int → Int) × (Int → Int) × (Int → Int) × (Int → Int) × (Int → Int))) (x2 : Int) (x3 : Int) (x4 : Int) (f2 : Int) (f3 : Int) (g2 : (Int → Int)) (g6 : (Int → Int)) (g7 : (Int → Int)) (g8 : (Int → Int)) (g9 : (Int → Int)) (g12 : (Int → Int)) : Option (Int × Int × Int × Int × (Int → Int) × (Int → Int) × (Int → Int) × (Int → Int) × (Int → Int) × (Int → Int)) := if x4 < 288 then ((zf_M_canBeTold x4 f1 f2 f3 f4 f0 g0 g1 g2 g3 g4 g5 g6 g7 g8 g9 g10 g11 g12).bind fun r5 => (if r5.1 = 0 then (rec x2 x3 (zi_w (x4 + 1)) r5.2.1 r5.2.2.1 r5.2.2.2.1 r5.2.2.2.2.1 r5.2.2.2.2.2.1 r5.2.2.2.2.2.2.1 r5.2.2.2.2.2.2.2.1 r5.2.2.2.2.2.2.2.2) else (if x2 = 0 then (rec (zi_w (x2 + 1)) x4 (zi_w (x4 + 1)) r5.2.1 r5.2.2.1 r5.2.2.2.1 r5.2.2.2.2.1 r5.2.2.2.2.2.1 r5.2.2.2.2.2.2.1 r5.2.2.2.2.2.2.2.1 r5.2.2.2.2.2.2.2.2) else (rec (zi_w (x2 + 1)) x3 (zi_w (x4 + 1)) r5.2.1 r5.2.2.1 r5.2.2.2.1 r5.2.2.2.2.1 r5.2.2.2.2.2.1 r5.2.2.2.2.2.2.1 r5.2.2.2.2.2.2.2.1 r5.2.2.2.2.2.2.2.2)))) else (some (x2, x3, f2, f3, g2, g6, g7, g8, g9, g12))
def zf_M_where_l0 (f0 : Int) (f1 : Int) (f4 : Int) (g0 : (Int → Int)) (g1 : (Int → Int)) (g3 : (Int → Int)) (g4 : (Int → Int)) (g5 : (Int → Int)) (g10 : (Int → Int)) (g11 : (Int → Int)) : Nat → Int → Int → Int → Int → Int → (Int → Int) → (Int → Int) → (Int → Int) → (Int → Int) → (Int → Int) → (Int → Int) → Option (Int × Int × Int × Int × (Int → Int) × (Int → Int) × (Int → Int) × (Int → Int) × (Int → Int) × (Int → Int))
  | 0, _, _, _, _, _, _, _, _, _, _, _ => none
  | n + 1, x2, x3, x4, f2, f3, g2, g6, g7, g8, g9, g12 => zf_M_where_l0_b f0 f1 f4 g0 g1 g3 g4 g5 g10 g11 (zf_M_where_l0 f0 f1 f4 g0 g1 g3 g4 g5 g10 g11 n) x2 x3 x4 f2 f3 g2 g6 g7 g8 g9 g12
def zf_M_where (x1 : Int) (f0 : Int) (f1 : Int) (f2 : Int) (f3 : Int) (f4 : Int) (g0 : (Int → Int)) (g1 : (Int → Int)) (g2 : (Int → Int)) (g3 : (Int → Int)) (g4 : (Int → Int)) (g5 : (Int → Int)) (g6 : (Int → Int)) (g7 : (Int → Int)) (g8 : (Int → Int)) (g9 : (Int → Int)) (g10 : (Int → Int)) (g11 : (Int → Int)) (g12 : (Int → Int)) : Option (Int × Int × Int × (Int → Int) × (Int → Int) × (Int → Int) × (Int → Int) × (Int → Int) × (Int → Int)) := (zf_M_in x1 0 1).bind fun r1 => (if r1 = 0 then (some ((-1), f2, f3, g2, g6, g7, g8, g9, g12)) else (if f0 = 0 then (some ((-1), f2, f3, g2, g6, g7, g8, g9, g12)) else ((zf_M_where_l0 f0 f1 f4 g0 g1 g3 g4 g5 g10 g11 zi_fu 0 (-2) 0 f2 f3 g2 g6 g7 g8 g9 g12).bind fun q8 => (if x1 = 0 then (some (q8.1, q8.2.2.1, q8.2.2.2.1, q8.2.2.2.2.1, q8.2.2.2.2.2.1, q8.2.2.2.2.2.2.1, q8.2.2.2.2.2.2.2.1, q8.2.2.2.2.2.2.2.2.1, q8.2.2.2.2.2.2.2.2.2)) else (some (q8.2.1, q8.2.2.1, q8.2.2.2.1, q8.2.2.2.2.1, q8.2.2.2.2.2.1, q8.2.2.2.2.2.2.1, q8.2.2.2.2.2.2.2.1, q8.2.2.2.2.2.2.2.2.1, q8.2.2.2.2.2.2.2.2.2))))))
theorem zd271_0 : decode zxm271.2.1 0 = .ok (.iload_n 1, 1) := by decide +kernel
theorem zd271_1 : decode zxm271.2.1 1 = .ok (.iconst 0, 1) := by decide +kernel
theorem zd271_2 : decode zxm271.2.1 2 = .ok (.iconst 1, 1) := by decide +kernel
theorem zd271_3 : decode zxm271.2.1 3 = .ok (.invokestatic 150, 3) := by decide +kernel
theorem zd271_6 : decode zxm271.2.1 6 = .ok (.ifCond .eq 10, 3) := by decide +kernel
theorem zd271_9 : decode zxm271.2.1 9 = .ok (.aload_n 0, 1) := by decide +kernel
theorem zd271_10 : decode zxm271.2.1 10 = .ok (.getfield 351, 3) := by decide +kernel
theorem zd271_13 : decode zxm271.2.1 13 = .ok (.ifCond .ne 5, 3) := by decide +kernel
theorem zd271_16 : decode zxm271.2.1 16 = .ok (.iconst (-1), 1) := by decide +kernel
theorem zd271_17 : decode zxm271.2.1 17 = .ok (.ireturn, 1) := by decide +kernel
theorem zd271_18 : decode zxm271.2.1 18 = .ok (.iconst 0, 1) := by decide +kernel
theorem zd271_19 : decode zxm271.2.1 19 = .ok (.istore_n 2, 1) := by decide +kernel
theorem zd271_20 : decode zxm271.2.1 20 = .ok (.bipush (-2), 2) := by decide +kernel
theorem zd271_22 : decode zxm271.2.1 22 = .ok (.istore_n 3, 1) := by decide +kernel
theorem zd271_23 : decode zxm271.2.1 23 = .ok (.iconst 0, 1) := by decide +kernel
theorem zd271_24 : decode zxm271.2.1 24 = .ok (.istore 4, 2) := by decide +kernel
theorem zd271_26 : decode zxm271.2.1 26 = .ok (.iload 4, 2) := by decide +kernel
theorem zd271_28 : decode zxm271.2.1 28 = .ok (.sipush 288, 3) := by decide +kernel
theorem zd271_31 : decode zxm271.2.1 31 = .ok (.if_icmp .ge 36, 3) := by decide +kernel
theorem zd271_34 : decode zxm271.2.1 34 = .ok (.aload_n 0, 1) := by decide +kernel
theorem zd271_35 : decode zxm271.2.1 35 = .ok (.iload 4, 2) := by decide +kernel
theorem zd271_37 : decode zxm271.2.1 37 = .ok (.invokevirtual 369, 3) := by decide +kernel
theorem zd271_40 : decode zxm271.2.1 40 = .ok (.ifCond .ne 6, 3) := by decide +kernel
theorem zd271_43 : decode zxm271.2.1 43 = .ok (.goto 18, 3) := by decide +kernel
theorem zd271_46 : decode zxm271.2.1 46 = .ok (.iload_n 2, 1) := by decide +kernel
theorem zd271_47 : decode zxm271.2.1 47 = .ok (.ifCond .ne 8, 3) := by decide +kernel
theorem zd271_50 : decode zxm271.2.1 50 = .ok (.iload 4, 2) := by decide +kernel
theorem zd271_52 : decode zxm271.2.1 52 = .ok (.goto 4, 3) := by decide +kernel
theorem zd271_55 : decode zxm271.2.1 55 = .ok (.iload_n 3, 1) := by decide +kernel
theorem zd271_56 : decode zxm271.2.1 56 = .ok (.istore_n 3, 1) := by decide +kernel
theorem zd271_57 : decode zxm271.2.1 57 = .ok (.iload_n 2, 1) := by decide +kernel
theorem zd271_58 : decode zxm271.2.1 58 = .ok (.iconst 1, 1) := by decide +kernel
theorem zd271_59 : decode zxm271.2.1 59 = .ok (.iadd, 1) := by decide +kernel
theorem zd271_60 : decode zxm271.2.1 60 = .ok (.istore_n 2, 1) := by decide +kernel
theorem zd271_61 : decode zxm271.2.1 61 = .ok (.iinc 4 1, 3) := by decide +kernel
theorem zd271_64 : decode zxm271.2.1 64 = .ok (.goto (-38), 3) := by decide +kernel
theorem zd271_67 : decode zxm271.2.1 67 = .ok (.iload_n 1, 1) := by decide +kernel
theorem zd271_68 : decode zxm271.2.1 68 = .ok (.ifCond .ne 7, 3) := by decide +kernel
theorem zd271_71 : decode zxm271.2.1 71 = .ok (.iload_n 2, 1) := by decide +kernel
theorem zd271_72 : decode zxm271.2.1 72 = .ok (.goto 4, 3) := by decide +kernel
theorem zd271_75 : decode zxm271.2.1 75 = .ok (.iload_n 3, 1) := by decide +kernel
theorem zd271_76 : decode zxm271.2.1 76 = .ok (.ireturn, 1) := by decide +kernel
theorem zt_M_where {x1 : Int} {f0 : Int} {f1 : Int} {f2 : Int} {f3 : Int} {f4 : Int} {g0 : (Int → Int)} {g1 : (Int → Int)} {g2 : (Int → Int)} {g3 : (Int → Int)} {g4 : (Int → Int)} {g5 : (Int → Int)} {g6 : (Int → Int)} {g7 : (Int → Int)} {g8 : (Int → Int)} {g9 : (Int → Int)} {g10 : (Int → Int)} {g11 : (Int → Int)} {g12 : (Int → Int)} {o : Int × Int × Int × (Int → Int) × (Int → Int) × (Int → Int) × (Int → Int) × (Int → Int) × (Int → Int)} (h : zf_M_where x1 f0 f1 f2 f3 f4 g0 g1 g2 g3 g4 g5 g6 g7 g8 g9 g10 g11 g12 = some o) : zv_Fn z_TB z_cl z_KX zy_M_where zxm271 (7, 420) [.inr 0, .inl x1] [.inl f0, .inl f1, .inl f2, .inl f3, .inl f4] [g0, g1, g2, g3, g4, g5, g6, g7, g8, g9, g10, g11, g12] (some o.1) [.inl f0, .inl f1, .inl o.2.1, .inl o.2.2.1, .inl f4] [g0, g1, o.2.2.2.1, g3, g4, g5, o.2.2.2.2.1, o.2.2.2.2.2.1, o.2.2.2.2.2.2.1, o.2.2.2.2.2.2.2.1, g10, g11, o.2.2.2.2.2.2.2.2] := zv_meth (K := (z_KF13, z_KC13, z_KL13, z_KT13, [], [], [], none)) (FT := z_FT) (MT := z_MT) (n := 2) zxp271 (z_ks13 _ (fun _ h => List.mem_cons_of_mem _ h) _ _ _ _ (fun j r h _ => by cases h)) (fun _ _ => zs_KX_p) zyw_M_where (fun va F G h => by obtain ⟨rfl, _⟩ := h; rfl) (fun va F G h => by obtain ⟨rfl, _⟩ := h; rfl) rfl fun good va F G hB hret hvret hP => by
  obtain ⟨rfl, rfl, rfl⟩ := hP
  have l0 : ∀ (n : Nat) (x1 : Int) (x2 : Int) (x3 : Int) (x4 : Int) (f2 : Int) (f3 : Int) (g2 : (Int → Int)) (g6 : (Int → Int)) (g7 : (Int → Int)) (g8 : (Int → Int)) (g9 : (Int → Int)) (g12 : (Int → Int)) (q : Int × Int × Int × Int × (Int → Int) × (Int → Int) × (Int → Int) × (Int → Int) × (Int → Int) × (Int → Int)), zf_M_where_l0 f0 f1 f4 g0 g1 g3 g4 g5 g10 g11 n x2 x3 x4 f2 f3 g2 g6 g7 g8 g9 g12 = some q → (good 67 [.inr 1000, .inl x1, .inl q.1, .inl q.2.1, .inr 1000] [] [.inl f0, .inl f1, .inl q.2.2.1, .inl q.2.2.2.1, .inl f4] [g0, g1, q.2.2.2.2.1, g3, g4, g5, q.2.2.2.2.2.1, q.2.2.2.2.2.2.1, q.2.2.2.2.2.2.2.1, q.2.2.2.2.2.2.2.2.1, g10, g11, q.2.2.2.2.2.2.2.2.2]) → good 26 [.inr 0, .inl x1, .inl x2, .inl x3, .inl x4] [] [.inl f0, .inl f1, .inl f2, .inl f3, .inl f4] [g0, g1, g2, g3, g4, g5, g6, g7, g8, g9, g10, g11, g12] := by
    intro n
    induction n with
    | zero => intro x1 x2 x3 x4 f2 f3 g2 g6 g7 g8 g9 g12 q h; exact absurd (show none = some q from h) (fun h => by cases h)
    | succ n ih =>
      intro x1 x2 x3 x4 f2 f3 g2 g6 g7 g8 g9 g12 q h hK
      replace h : zf_M_where_l0_b f0 f1 f4 g0 g1 g3 g4 g5 g10 g11 (zf_M_where_l0 f0 f1 f4 g0 g1 g3 g4 g5 g10 g11 n) x2 x3 x4 f2 f3 g2 g6 g7 g8 g9 g12 = some q := h
      unfold zf_M_where_l0_b at h
      refine zv_ild hB zd271_26 rfl rfl ?_
      refine zv_con hB zd271_28 rfl ?_
      refine zv_cge hB zd271_31 rfl (fun hc4 => ?_) (fun hc4 => ?_)
      · rw [if_neg (Int.not_lt.mpr hc4)] at h
        have hq := Option.some.inj h
        subst hq
        refine zv_wk hB (L' := [.inr 1000, .inl x1, .inl x2, .inl x3, .inr 1000]) (F' := [.inl f0, .inl f1, .inl f2, .inl f3, .inl f4]) ⟨fun (h : zv_is (.inr 1000)) => (Nat.lt_irrefl 1000 h).elim, fun _ => rfl, fun _ => rfl, fun _ => rfl, fun (h : zv_is (.inr 1000)) => (Nat.lt_irrefl 1000 h).elim, trivial⟩ ⟨fun _ => rfl, fun _ => rfl, fun _ => rfl, fun _ => rfl, fun _ => rfl, trivial⟩ ?_
        exact hK
      · rw [if_pos hc4] at h
        refine zv_ald hB zd271_34 rfl rfl rfl ?_
        refine zv_ild hB zd271_35 rfl rfl ?_
        obtain ⟨r5, hr5, h⟩ := zi_bind h
        refine zv_cv hB (zv_emq (va2 := [.inr 0, .inl x4]) (F := [.inl f0, .inl f1, .inl f2, .inl f3, .inl f4]) (F' := [.inl f0, .inl f1, .inl r5.2.1, .inl r5.2.2.1, .inl f4]) (G := [g0, g1, g2, g3, g4, g5, g6, g7, g8, g9, g10, g11, g12]) (G' := [g0, g1, r5.2.2.2.1, g3, g4, g5, r5.2.2.2.2.1, r5.2.2.2.2.2.1, r5.2.2.2.2.2.2.1, r5.2.2.2.2.2.2.2.1, g10, g11, r5.2.2.2.2.2.2.2.2]) (ρ := [0, 1, 2, 3, 4, 5, 6, 7, 8, 9, 10, 11, 12, 13]) (φ := [1, 2, 3, 4, 0]) (ψ := [0, 1, 2, 3, 4, 5, 6, 7, 8, 9, 10, 11, 12]) [some 4, some 0, some 1, some 2, some 3] [some 0, some 1, some 2, some 3, some 4, some 5, some 6, some 7, some 8, some 9, some 10, some 11, some 12] zyw_M_canBeTold zyw_M_where zye_M_where (by decide +kernel) (zt_M_canBeTold hr5) ⟨⟨_, rfl, fun _ => rfl⟩, ⟨_, rfl, fun _ => rfl⟩, ⟨_, rfl, fun _ => rfl⟩, ⟨_, rfl, fun _ => rfl⟩, ⟨_, rfl, fun _ => rfl⟩, trivial⟩ ⟨rfl, rfl, rfl, rfl, rfl, rfl, rfl, rfl, rfl, rfl, rfl, rfl, rfl, trivial⟩ rfl rfl rfl rfl rfl rfl rfl) zd271_37 zxt272 rfl (by decide) (by decide) rfl ?_
        refine zv_zne hB zd271_40 rfl (fun hc6 => ?_) (fun hc6 => ?_)
        · rw [if_neg hc6] at h
          refine zv_ild hB zd271_46 rfl rfl ?_
          refine zv_zne hB zd271_47 rfl (fun hc7 => ?_) (fun hc7 => ?_)
          · rw [if_neg hc7] at h
            refine zv_ild hB zd271_55 rfl rfl ?_
            refine zv_ist hB zd271_56 rfl rfl rfl ?_
            refine zv_ild hB zd271_57 rfl rfl ?_
            refine zv_con hB zd271_58 rfl ?_
            refine zv_addw hB zd271_59 ?_
            refine zv_ist hB zd271_60 rfl rfl rfl ?_
            refine zv_iincw hB zd271_61 rfl rfl ?_
            refine zv_goto hB zd271_64 rfl ?_
            exact ih _ _ _ _ _ _ _ _ _ _ _ _ q h hK
          · rw [if_pos hc7] at h
            refine zv_ild hB zd271_50 rfl rfl ?_
            refine zv_goto hB zd271_52 rfl ?_
            refine zv_ist hB zd271_56 rfl rfl rfl ?_
            refine zv_ild hB zd271_57 rfl rfl ?_
            refine zv_con hB zd271_58 rfl ?_
            refine zv_addw hB zd271_59 ?_
            refine zv_ist hB zd271_60 rfl rfl rfl ?_
            refine zv_iincw hB zd271_61 rfl rfl ?_
            refine zv_goto hB zd271_64 rfl ?_
            exact ih _ _ _ _ _ _ _ _ _ _ _ _ q h hK
        · rw [if_pos hc6] at h
          refine zv_goto hB zd271_43 rfl ?_
          refine zv_iincw hB zd271_61 rfl rfl ?_
          refine zv_goto hB zd271_64 rfl ?_
          exact ih _ _ _ _ _ _ _ _ _ _ _ _ q h hK
  unfold zf_M_where at h
  refine zv_ild hB zd271_0 rfl rfl ?_
  refine zv_con hB zd271_1 rfl ?_
  refine zv_con hB zd271_2 rfl ?_
  obtain ⟨r1, hr1, h⟩ := zi_bind h
  refine zv_cs hB (zv_emq (va2 := [.inl x1, .inl 0, .inl 1]) (F := [.inl f0, .inl f1, .inl f2, .inl f3, .inl f4]) (F' := [.inl f0, .inl f1, .inl f2, .inl f3, .inl f4]) (G := [g0, g1, g2, g3, g4, g5, g6, g7, g8, g9, g10, g11, g12]) (G' := [g0, g1, g2, g3, g4, g5, g6, g7, g8, g9, g10, g11, g12]) (ρ := []) (φ := []) (ψ := []) [none, none, none, none, none] [none, none, none, none, none, none, none, none, none, none, none, none, none] zyw_M_in zyw_M_where zye_M_where (by decide +kernel) (zt_M_in hr1) trivial trivial rfl rfl rfl rfl rfl rfl rfl) zd271_3 zxt200 rfl (by decide) (by decide) rfl ?_
  refine zv_zeq hB zd271_6 rfl (fun hc2 => ?_) (fun hc2 => ?_)
  · rw [if_pos hc2] at h
    refine zv_con hB zd271_16 rfl ?_
    have hw := Option.some.inj h
    subst hw
    exact hret _ _ _ _ _ zd271_17 (by trivial) ⟨rfl, rfl, rfl⟩
  · rw [if_neg hc2] at h
    refine zv_ald hB zd271_9 rfl rfl rfl ?_
    refine zv_getf hB zd271_10 rfl rfl (fun _ _ => ?_)
    refine zv_zne hB zd271_13 rfl (fun hc3 => ?_) (fun hc3 => ?_)
    · rw [if_neg hc3] at h
      refine zv_con hB zd271_18 rfl ?_
      refine zv_ist hB zd271_19 rfl rfl rfl ?_
      refine zv_con hB zd271_20 rfl ?_
      refine zv_ist hB zd271_22 rfl rfl rfl ?_
      refine zv_con hB zd271_23 rfl ?_
      refine zv_ist hB zd271_24 rfl rfl rfl ?_
      obtain ⟨q8, hq8, h⟩ := zi_bind h
      refine l0 _ _ _ _ _ _ _ _ _ _ _ _ _ q8 hq8 ?_
      show good 67 [.inr 1000, .inl x1, .inl q8.1, .inl q8.2.1, .inr 1000] [] [.inl f0, .inl f1, .inl q8.2.2.1, .inl q8.2.2.2.1, .inl f4] [g0, g1, q8.2.2.2.2.1, g3, g4, g5, q8.2.2.2.2.2.1, q8.2.2.2.2.2.2.1, q8.2.2.2.2.2.2.2.1, q8.2.2.2.2.2.2.2.2.1, g10, g11, q8.2.2.2.2.2.2.2.2.2]
      refine zv_ild hB zd271_67 rfl rfl ?_
      refine zv_zne hB zd271_68 rfl (fun hc9 => ?_) (fun hc9 => ?_)
      · rw [if_neg hc9] at h
        refine zv_ild hB zd271_75 rfl rfl ?_
        have hw := Option.some.inj h
        subst hw
        exact hret _ _ _ _ _ zd271_76 (by trivial) ⟨rfl, rfl, rfl⟩
      · rw [if_pos hc9] at h
        refine zv_ild hB zd271_71 rfl rfl ?_
        refine zv_goto hB zd271_72 rfl ?_
        have hw := Option.some.inj h
        subst hw
        exact hret _ _ _ _ _ zd271_76 (by trivial) ⟨rfl, rfl, rfl⟩
    · rw [if_pos hc3] at h
      refine zv_con hB zd271_16 rfl ?_
      have hw := Option.some.inj h
      subst hw
      exact hret _ _ _ _ _ zd271_17 (by trivial) ⟨rfl, rfl, rfl⟩
/-! M_when (II)I -/
-- names: 0 StarTalesModel('arg', 0), 1 (0, 422)(0, 12, 0), 2 (0, 14)(0, 12, 21), 3 (0, 13)(0, 12, 26), 4 (0, 14)(0, 12, 23), 5 (0, 14)(0, 12, 24), 6 (0, 220)(0, 12, 20), 7 (0, 220)(0, 12, 25), 8 (0, 24)(0, 12, 28), 9 (0, 8)(0, 12, 38), 10 (0, 8)(0, 12, 39), 11 (0, 12)(0, 12, 34), 12 (0, 12)(0, 12, 35), 13 (0, 8)(0, 12, 40)
-- fields: f0 = 0.taleLines_, f1 = 0.clauses_, f2 = 0.seen0_, f3 = 0.nameMany_, f4 = 0.namesIn_; arrays: g0 = 1, g1 = 2, g2 = 3, g3 = 4, g4 = 5, g5 = 6, g6 = 7, g7 = 8, g8 = 9, g9 = 10, g10 = 11, g11 = 12, g12 = 13; out: [('ret', None), ('f', 2), ('f', 3), ('g', 0), ('g', 2), ('g', 6), ('g', 7), ('g', 8), ('g', 9), ('g', 12)]
abbrev zy_M_when : zNL := (14, [(0, 12)], [(0, 12, 31, 0), (0, 12, 13, 1), (0, 12, 27, 2), (0, 12, 41, 3), (0, 12, 33, 4)], [(0, 12, 0, 1), (0, 12, 21, 2), (0, 12, 26, 3), (0, 12, 23, 4), (0, 12, 24, 5), (0, 12, 20, 6), (0, 12, 25, 7), (0, 12, 28, 8), (0, 12, 38, 9), (0, 12, 39, 10), (0, 12, 34, 11), (0, 12, 35, 12), (0, 12, 40, 13)], [(1, 0, 422, 0), (2, 0, 14, 1), (3, 0, 13, 2), (4, 0, 14, 3), (5, 0, 14, 4), (6, 0, 220, 5), (7, 0, 220, 6), (8, 0, 24, 7), (9, 0, 8, 8), (10, 0, 8, 9), (11, 0, 12, 10), (12, 0, 12, 11), (13, 0, 8, 12)])
theorem zyw_M_when : zv_wf zy_M_when = true := by decide +kernel
theorem zye_M_when : zv_ek2 zy_M_when = true := by decide +kernel
def zf_M_when_l0_b (x1 : Int) (x2 : Int) (f0 : Int) (f1 : Int) (f4 : Int) (g1 : (Int → Int)) (g3 : (Int → Int)) (g4 : (Int → Int)) (g5 : (Int → Int)) (g10 : (Int → Int)) (g11 : (Int → Int)) (rec : Int → Int → Int → Int → (Int → Int) → (Int → Int) → (Int → Int) → (Int → Int) → (Int → Int) → (Int → Int) → (Int → Int) → Option (Int × Int × Int × (Int → Int) × (Int → Int) × (Int → Int) × (Int → Int) × (Int → Int) × (Int → Int) × (Int → Int))) (x4 : Int) (x5 : Int) (f2 : Int) (f3 : Int) (g0 : (Int → Int)) (g2 : (Int → Int)) (g6 : (Int → Int)) (g7 : (Int → Int)) (g8 : (Int → Int)) (g9 : (Int → Int)) (g12 : (Int → Int)) : Option (Int × Int × Int × (Int → Int) × (Int → Int) × (Int → Int) × (Int → Int) × (Int → Int) × (Int → Int) × (Int → Int)) := if x5 < 24 then ((zf_M_canBeTold (zi_w ((zi_w (24 * x2)) + x1)) f1 f2 f3 f4 f0 (zv_up g0 128 x5) g1 g2 g3 g4 g5 g6 g7 g8 g9 g10 g11 g12).bind fun r5 => (if r5.1 = 0 then (rec x4 (zi_w (x5 + 1)) r5.2.1 r5.2.2.1 (zv_up g0 128 x5) r5.2.2.2.1 r5.2.2.2.2.1 r5.2.2.2.2.2.1 r5.2.2.2.2.2.2.1 r5.2.2.2.2.2.2.2.1 r5.2.2.2.2.2.2.2.2) else (rec (zi_or x4 (zi_shl 1 x5)) (zi_w (x5 + 1)) r5.2.1 r5.2.2.1 (zv_up g0 128 x5) r5.2.2.2.1 r5.2.2.2.2.1 r5.2.2.2.2.2.1 r5.2.2.2.2.2.2.1 r5.2.2.2.2.2.2.2.1 r5.2.2.2.2.2.2.2.2))) else (some (x4, f2, f3, g0, g2, g6, g7, g8, g9, g12))
def zf_M_when_l0 (x1 : Int) (x2 : Int) (f0 : Int) (f1 : Int) (f4 : Int) (g1 : (Int → Int)) (g3 : (Int → Int)) (g4 : (Int → Int)) (g5 : (Int → Int)) (g10 : (Int → Int)) (g11 : (Int → Int)) : Nat → Int → Int → Int → Int → (Int → Int) → (Int → Int) → (Int → Int) → (Int → Int) → (Int → Int) → (Int → Int) → (Int → Int) → Option (Int × Int × Int × (Int → Int) × (Int → Int) × (Int → Int) × (Int → Int) × (Int → Int) × (Int → Int) × (Int → Int))
  | 0, _, _, _, _, _, _, _, _, _, _, _ => none
  | n + 1, x4, x5, f2, f3, g0, g2, g6, g7, g8, g9, g12 => zf_M_when_l0_b x1 x2 f0 f1 f4 g1 g3 g4 g5 g10 g11 (zf_M_when_l0 x1 x2 f0 f1 f4 g1 g3 g4 g5 g10 g11 n) x4 x5 f2 f3 g0 g2 g6 g7 g8 g9 g12
def zf_M_when (x1 : Int) (x2 : Int) (f0 : Int) (f1 : Int) (f2 : Int) (f3 : Int) (f4 : Int) (g0 : (Int → Int)) (g1 : (Int → Int)) (g2 : (Int → Int)) (g3 : (Int → Int)) (g4 : (Int → Int)) (g5 : (Int → Int)) (g6 : (Int → Int)) (g7 : (Int → Int)) (g8 : (Int → Int)) (g9 : (Int → Int)) (g10 : (Int → Int)) (g11 : (Int → Int)) (g12 : (Int → Int)) : Option (Int × Int × Int × (Int → Int) × (Int → Int) × (Int → Int) × (Int → Int) × (Int → Int) × (Int → Int) × (Int → Int)) := (zf_M_isPlace x1 x2).bind fun r1 => (if r1 = 0 then (some ((-1), f2, f3, g0, g2, g6, g7, g8, g9, g12)) else (if f0 = 0 then (some ((-1), f2, f3, g0, g2, g6, g7, g8, g9, g12)) else ((zf_M_when_l0 x1 x2 f0 f1 f4 g1 g3 g4 g5 g10 g11 zi_fu 0 0 f2 f3 g0 g2 g6 g7 g8 g9 g12).bind fun q7 => (some (q7.1, q7.2.1, q7.2.2.1, (zv_up q7.2.2.2.1 128 (g0 128)), q7.2.2.2.2.1, q7.2.2.2.2.2.1, q7.2.2.2.2.2.2.1, q7.2.2.2.2.2.2.2.1, q7.2.2.2.2.2.2.2.2.1, q7.2.2.2.2.2.2.2.2.2)))))
theorem zd273_0 : decode zxm273.2.1 0 = .ok (.iload_n 1, 1) := by decide +kernel
theorem zd273_1 : decode zxm273.2.1 1 = .ok (.iload_n 2, 1) := by decide +kernel
theorem zd273_2 : decode zxm273.2.1 2 = .ok (.invokestatic 154, 3) := by decide +kernel
theorem zd273_5 : decode zxm273.2.1 5 = .ok (.ifCond .eq 10, 3) := by decide +kernel
theorem zd273_8 : decode zxm273.2.1 8 = .ok (.aload_n 0, 1) := by decide +kernel
theorem zd273_9 : decode zxm273.2.1 9 = .ok (.getfield 351, 3) := by decide +kernel
theorem zd273_12 : decode zxm273.2.1 12 = .ok (.ifCond .ne 5, 3) := by decide +kernel
theorem zd273_15 : decode zxm273.2.1 15 = .ok (.iconst (-1), 1) := by decide +kernel
theorem zd273_16 : decode zxm273.2.1 16 = .ok (.ireturn, 1) := by decide +kernel
theorem zd273_17 : decode zxm273.2.1 17 = .ok (.aload_n 0, 1) := by decide +kernel
theorem zd273_18 : decode zxm273.2.1 18 = .ok (.getfield 7, 3) := by decide +kernel
theorem zd273_21 : decode zxm273.2.1 21 = .ok (.sipush 128, 3) := by decide +kernel
theorem zd273_24 : decode zxm273.2.1 24 = .ok (.iaload, 1) := by decide +kernel
theorem zd273_25 : decode zxm273.2.1 25 = .ok (.istore_n 3, 1) := by decide +kernel
theorem zd273_26 : decode zxm273.2.1 26 = .ok (.iconst 0, 1) := by decide +kernel
theorem zd273_27 : decode zxm273.2.1 27 = .ok (.istore 4, 2) := by decide +kernel
theorem zd273_29 : decode zxm273.2.1 29 = .ok (.iconst 0, 1) := by decide +kernel
theorem zd273_30 : decode zxm273.2.1 30 = .ok (.istore 5, 2) := by decide +kernel
theorem zd273_32 : decode zxm273.2.1 32 = .ok (.iload 5, 2) := by decide +kernel
theorem zd273_34 : decode zxm273.2.1 34 = .ok (.bipush 24, 2) := by decide +kernel
theorem zd273_36 : decode zxm273.2.1 36 = .ok (.if_icmp .ge 41, 3) := by decide +kernel
theorem zd273_39 : decode zxm273.2.1 39 = .ok (.aload_n 0, 1) := by decide +kernel
theorem zd273_40 : decode zxm273.2.1 40 = .ok (.getfield 7, 3) := by decide +kernel
theorem zd273_43 : decode zxm273.2.1 43 = .ok (.sipush 128, 3) := by decide +kernel
theorem zd273_46 : decode zxm273.2.1 46 = .ok (.iload 5, 2) := by decide +kernel
theorem zd273_48 : decode zxm273.2.1 48 = .ok (.iastore, 1) := by decide +kernel
theorem zd273_49 : decode zxm273.2.1 49 = .ok (.aload_n 0, 1) := by decide +kernel
theorem zd273_50 : decode zxm273.2.1 50 = .ok (.bipush 24, 2) := by decide +kernel
theorem zd273_52 : decode zxm273.2.1 52 = .ok (.iload_n 2, 1) := by decide +kernel
theorem zd273_53 : decode zxm273.2.1 53 = .ok (.imul, 1) := by decide +kernel
theorem zd273_54 : decode zxm273.2.1 54 = .ok (.iload_n 1, 1) := by decide +kernel
theorem zd273_55 : decode zxm273.2.1 55 = .ok (.iadd, 1) := by decide +kernel
theorem zd273_56 : decode zxm273.2.1 56 = .ok (.invokevirtual 369, 3) := by decide +kernel
theorem zd273_59 : decode zxm273.2.1 59 = .ok (.ifCond .eq 12, 3) := by decide +kernel
theorem zd273_62 : decode zxm273.2.1 62 = .ok (.iload 4, 2) := by decide +kernel
theorem zd273_64 : decode zxm273.2.1 64 = .ok (.iconst 1, 1) := by decide +kernel
theorem zd273_65 : decode zxm273.2.1 65 = .ok (.iload 5, 2) := by decide +kernel
theorem zd273_67 : decode zxm273.2.1 67 = .ok (.ishl, 1) := by decide +kernel
theorem zd273_68 : decode zxm273.2.1 68 = .ok (.ior, 1) := by decide +kernel
theorem zd273_69 : decode zxm273.2.1 69 = .ok (.istore 4, 2) := by decide +kernel
theorem zd273_71 : decode zxm273.2.1 71 = .ok (.iinc 5 1, 3) := by decide +kernel
theorem zd273_74 : decode zxm273.2.1 74 = .ok (.goto (-42), 3) := by decide +kernel
theorem zd273_77 : decode zxm273.2.1 77 = .ok (.aload_n 0, 1) := by decide +kernel
theorem zd273_78 : decode zxm273.2.1 78 = .ok (.getfield 7, 3) := by decide +kernel
theorem zd273_81 : decode zxm273.2.1 81 = .ok (.sipush 128, 3) := by decide +kernel
theorem zd273_84 : decode zxm273.2.1 84 = .ok (.iload_n 3, 1) := by decide +kernel
theorem zd273_85 : decode zxm273.2.1 85 = .ok (.iastore, 1) := by decide +kernel
theorem zd273_86 : decode zxm273.2.1 86 = .ok (.iload 4, 2) := by decide +kernel
theorem zd273_88 : decode zxm273.2.1 88 = .ok (.ireturn, 1) := by decide +kernel
theorem zt_M_when {x1 : Int} {x2 : Int} {f0 : Int} {f1 : Int} {f2 : Int} {f3 : Int} {f4 : Int} {g0 : (Int → Int)} {g1 : (Int → Int)} {g2 : (Int → Int)} {g3 : (Int → Int)} {g4 : (Int → Int)} {g5 : (Int → Int)} {g6 : (Int → Int)} {g7 : (Int → Int)} {g8 : (Int → Int)} {g9 : (Int → Int)} {g10 : (Int → Int)} {g11 : (Int → Int)} {g12 : (Int → Int)} {o : Int × Int × Int × (Int → Int) × (Int → Int) × (Int → Int) × (Int → Int) × (Int → Int) × (Int → Int) × (Int → Int)} (h : zf_M_when x1 x2 f0 f1 f2 f3 f4 g0 g1 g2 g3 g4 g5 g6 g7 g8 g9 g10 g11 g12 = some o) : zv_Fn z_TB z_cl z_KX zy_M_when zxm273 (7, 420) [.inr 0, .inl x1, .inl x2] [.inl f0, .inl f1, .inl f2, .inl f3, .inl f4] [g0, g1, g2, g3, g4, g5, g6, g7, g8, g9, g10, g11, g12] (some o.1) [.inl f0, .inl f1, .inl o.2.1, .inl o.2.2.1, .inl f4] [o.2.2.2.1, g1, o.2.2.2.2.1, g3, g4, g5, o.2.2.2.2.2.1, o.2.2.2.2.2.2.1, o.2.2.2.2.2.2.2.1, o.2.2.2.2.2.2.2.2.1, g10, g11, o.2.2.2.2.2.2.2.2.2] := zv_meth (K := (z_KF13, z_KC13, z_KL13, z_KT13, [], [], [], none)) (FT := z_FT) (MT := z_MT) (n := 3) zxp273 (z_ks13 _ (fun _ h => List.mem_cons_of_mem _ h) _ _ _ _ (fun j r h _ => by cases h)) (fun _ _ => zs_KX_p) zyw_M_when (fun va F G h => by obtain ⟨rfl, _⟩ := h; rfl) (fun va F G h => by obtain ⟨rfl, _⟩ := h; rfl) rfl fun good va F G hB hret hvret hP => by
  obtain ⟨rfl, rfl, rfl⟩ := hP
  have l0 : ∀ (n : Nat) (x1 : Int) (x2 : Int) (x3 : Int) (x4 : Int) (x5 : Int) (f2 : Int) (f3 : Int) (g0 : (Int → Int)) (g2 : (Int → Int)) (g6 : (Int → Int)) (g7 : (Int → Int)) (g8 : (Int → Int)) (g9 : (Int → Int)) (g12 : (Int → Int)) (q : Int × Int × Int × (Int → Int) × (Int → Int) × (Int → Int) × (Int → Int) × (Int → Int) × (Int → Int) × (Int → Int)), zf_M_when_l0 x1 x2 f0 f1 f4 g1 g3 g4 g5 g10 g11 n x4 x5 f2 f3 g0 g2 g6 g7 g8 g9 g12 = some q → (good 77 [.inr 0, .inr 1000, .inr 1000, .inl x3, .inl q.1, .inr 1000] [] [.inl f0, .inl f1, .inl q.2.1, .inl q.2.2.1, .inl f4] [q.2.2.2.1, g1, q.2.2.2.2.1, g3, g4, g5, q.2.2.2.2.2.1, q.2.2.2.2.2.2.1, q.2.2.2.2.2.2.2.1, q.2.2.2.2.2.2.2.2.1, g10, g11, q.2.2.2.2.2.2.2.2.2]) → good 32 [.inr 0, .inl x1, .inl x2, .inl x3, .inl x4, .inl x5] [] [.inl f0, .inl f1, .inl f2, .inl f3, .inl f4] [g0, g1, g2, g3, g4, g5, g6, g7, g8, g9, g10, g11, g12] := by
    intro n
    induction n with
    | zero => intro x1 x2 x3 x4 x5 f2 f3 g0 g2 g6 g7 g8 g9 g12 q h; exact absurd (show none = some q from h) (fun h => by cases h)
    | succ n ih =>
      intro x1 x2 x3 x4 x5 f2 f3 g0 g2 g6 g7 g8 g9 g12 q h hK
      replace h : zf_M_when_l0_b x1 x2 f0 f1 f4 g1 g3 g4 g5 g10 g11 (zf_M_when_l0 x1 x2 f0 f1 f4 g1 g3 g4 g5 g10 g11 n) x4 x5 f2 f3 g0 g2 g6 g7 g8 g9 g12 = some q := h
      unfold zf_M_when_l0_b at h
      refine zv_ild hB zd273_32 rfl rfl ?_
      refine zv_con hB zd273_34 rfl ?_
      refine zv_cge hB zd273_36 rfl (fun hc4 => ?_) (fun hc4 => ?_)
      · rw [if_neg (Int.not_lt.mpr hc4)] at h
        have hq := Option.some.inj h
        subst hq
        refine zv_wk hB (L' := [.inr 0, .inr 1000, .inr 1000, .inl x3, .inl x4, .inr 1000]) (F' := [.inl f0, .inl f1, .inl f2, .inl f3, .inl f4]) ⟨fun _ => rfl, fun (h : zv_is (.inr 1000)) => (Nat.lt_irrefl 1000 h).elim, fun (h : zv_is (.inr 1000)) => (Nat.lt_irrefl 1000 h).elim, fun _ => rfl, fun _ => rfl, fun (h : zv_is (.inr 1000)) => (Nat.lt_irrefl 1000 h).elim, trivial⟩ ⟨fun _ => rfl, fun _ => rfl, fun _ => rfl, fun _ => rfl, fun _ => rfl, trivial⟩ ?_
        exact hK
      · rw [if_pos hc4] at h
        refine zv_ald hB zd273_39 rfl rfl rfl ?_
        refine zv_getr hB zd273_40 rfl ?_
        refine zv_con hB zd273_43 rfl ?_
        refine zv_ild hB zd273_46 rfl rfl ?_
        refine zv_iast hB zd273_48 rfl rfl (by decide) (by decide) ?_
        refine zv_ald hB zd273_49 rfl rfl rfl ?_
        refine zv_con hB zd273_50 rfl ?_
        refine zv_ild hB zd273_52 rfl rfl ?_
        refine zv_mulw hB zd273_53 ?_
        refine zv_ild hB zd273_54 rfl rfl ?_
        refine zv_addw hB zd273_55 ?_
        obtain ⟨r5, hr5, h⟩ := zi_bind h
        refine zv_cv hB (zv_emq (va2 := [.inr 0, .inl (zi_w ((zi_w (24 * x2)) + x1))]) (F := [.inl f0, .inl f1, .inl f2, .inl f3, .inl f4]) (F' := [.inl f0, .inl f1, .inl r5.2.1, .inl r5.2.2.1, .inl f4]) (G := [(zv_up g0 128 x5), g1, g2, g3, g4, g5, g6, g7, g8, g9, g10, g11, g12]) (G' := [(zv_up g0 128 x5), g1, r5.2.2.2.1, g3, g4, g5, r5.2.2.2.2.1, r5.2.2.2.2.2.1, r5.2.2.2.2.2.2.1, r5.2.2.2.2.2.2.2.1, g10, g11, r5.2.2.2.2.2.2.2.2]) (ρ := [0, 1, 2, 3, 4, 5, 6, 7, 8, 9, 10, 11, 12, 13]) (φ := [1, 2, 3, 4, 0]) (ψ := [0, 1, 2, 3, 4, 5, 6, 7, 8, 9, 10, 11, 12]) [some 4, some 0, some 1, some 2, some 3] [some 0, some 1, some 2, some 3, some 4, some 5, some 6, some 7, some 8, some 9, some 10, some 11, some 12] zyw_M_canBeTold zyw_M_when zye_M_when (by decide +kernel) (zt_M_canBeTold hr5) ⟨⟨_, rfl, fun _ => rfl⟩, ⟨_, rfl, fun _ => rfl⟩, ⟨_, rfl, fun _ => rfl⟩, ⟨_, rfl, fun _ => rfl⟩, ⟨_, rfl, fun _ => rfl⟩, trivial⟩ ⟨rfl, rfl, rfl, rfl, rfl, rfl, rfl, rfl, rfl, rfl, rfl, rfl, rfl, trivial⟩ rfl rfl rfl rfl rfl rfl rfl) zd273_56 zxt272 rfl (by decide) (by decide) rfl ?_
        refine zv_zeq hB zd273_59 rfl (fun hc6 => ?_) (fun hc6 => ?_)
        · rw [if_pos hc6] at h
          refine zv_iincw hB zd273_71 rfl rfl ?_
          refine zv_goto hB zd273_74 rfl ?_
          exact ih _ _ _ _ _ _ _ _ _ _ _ _ _ _ q h hK
        · rw [if_neg hc6] at h
          refine zv_ild hB zd273_62 rfl rfl ?_
          refine zv_con hB zd273_64 rfl ?_
          refine zv_ild hB zd273_65 rfl rfl ?_
          refine zv_shlw hB zd273_67 ?_
          refine zv_orw hB zd273_68 ?_
          refine zv_ist hB zd273_69 rfl rfl rfl ?_
          refine zv_iincw hB zd273_71 rfl rfl ?_
          refine zv_goto hB zd273_74 rfl ?_
          exact ih _ _ _ _ _ _ _ _ _ _ _ _ _ _ q h hK
  unfold zf_M_when at h
  refine zv_ild hB zd273_0 rfl rfl ?_
  refine zv_ild hB zd273_1 rfl rfl ?_
  obtain ⟨r1, hr1, h⟩ := zi_bind h
  refine zv_cs hB (zv_emq (va2 := [.inl x1, .inl x2]) (F := [.inl f0, .inl f1, .inl f2, .inl f3, .inl f4]) (F' := [.inl f0, .inl f1, .inl f2, .inl f3, .inl f4]) (G := [g0, g1, g2, g3, g4, g5, g6, g7, g8, g9, g10, g11, g12]) (G' := [g0, g1, g2, g3, g4, g5, g6, g7, g8, g9, g10, g11, g12]) (ρ := []) (φ := []) (ψ := []) [none, none, none, none, none] [none, none, none, none, none, none, none, none, none, none, none, none, none] zyw_M_isPlace zyw_M_when zye_M_when (by decide +kernel) (zt_M_isPlace hr1) trivial trivial rfl rfl rfl rfl rfl rfl rfl) zd273_2 zxt201 rfl (by decide) (by decide) rfl ?_
  refine zv_zeq hB zd273_5 rfl (fun hc2 => ?_) (fun hc2 => ?_)
  · rw [if_pos hc2] at h
    refine zv_con hB zd273_15 rfl ?_
    have hw := Option.some.inj h
    subst hw
    exact hret _ _ _ _ _ zd273_16 (by trivial) ⟨rfl, rfl, rfl⟩
  · rw [if_neg hc2] at h
    refine zv_ald hB zd273_8 rfl rfl rfl ?_
    refine zv_getf hB zd273_9 rfl rfl (fun _ _ => ?_)
    refine zv_zne hB zd273_12 rfl (fun hc3 => ?_) (fun hc3 => ?_)
    · rw [if_neg hc3] at h
      refine zv_ald hB zd273_17 rfl rfl rfl ?_
      refine zv_getr hB zd273_18 rfl ?_
      refine zv_con hB zd273_21 rfl ?_
      refine zv_iald hB zd273_24 rfl rfl (by decide) (by decide) (fun _ _ => ?_)
      refine zv_ist hB zd273_25 rfl rfl rfl ?_
      refine zv_con hB zd273_26 rfl ?_
      refine zv_ist hB zd273_27 rfl rfl rfl ?_
      refine zv_con hB zd273_29 rfl ?_
      refine zv_ist hB zd273_30 rfl rfl rfl ?_
      obtain ⟨q7, hq7, h⟩ := zi_bind h
      refine l0 _ _ _ _ _ _ _ _ _ _ _ _ _ _ _ q7 hq7 ?_
      show good 77 [.inr 0, .inr 1000, .inr 1000, .inl (g0 128), .inl q7.1, .inr 1000] [] [.inl f0, .inl f1, .inl q7.2.1, .inl q7.2.2.1, .inl f4] [q7.2.2.2.1, g1, q7.2.2.2.2.1, g3, g4, g5, q7.2.2.2.2.2.1, q7.2.2.2.2.2.2.1, q7.2.2.2.2.2.2.2.1, q7.2.2.2.2.2.2.2.2.1, g10, g11, q7.2.2.2.2.2.2.2.2.2]
      refine zv_ald hB zd273_77 rfl rfl rfl ?_
      refine zv_getr hB zd273_78 rfl ?_
      refine zv_con hB zd273_81 rfl ?_
      refine zv_ild hB zd273_84 rfl rfl ?_
      refine zv_iast hB zd273_85 rfl rfl (by decide) (by decide) ?_
      refine zv_ild hB zd273_86 rfl rfl ?_
      have hw := Option.some.inj h
      subst hw
      exact hret _ _ _ _ _ zd273_88 (by trivial) ⟨rfl, rfl, rfl⟩
    · rw [if_pos hc3] at h
      refine zv_con hB zd273_15 rfl ?_
      have hw := Option.some.inj h
      subst hw
      exact hret _ _ _ _ _ zd273_16 (by trivial) ⟨rfl, rfl, rfl⟩
/-! M_partOf (II)I -/
-- names: 0 StarTalesModel('arg', 0), 1 (0, 422)(0, 12, 0)
-- fields: ; arrays: g0 = 1; out: [('ret', None)]
abbrev zy_M_partOf : zNL := (2, [(0, 12)], [], [(0, 12, 0, 1)], [(1, 0, 422, 0)])
theorem zyw_M_partOf : zv_wf zy_M_partOf = true := by decide +kernel
theorem zye_M_partOf : zv_ek2 zy_M_partOf = true := by decide +kernel
def zf_M_partOf (x1 : Int) (x2 : Int) (g0 : (Int → Int)) : Option (Int) := (zf_M_standsAt x2 g0).bind fun r1 => ((zf_M_toRight (zi_rem x1 24) r1).bind fun r2 => (cond (zi_ix (zi_w (24 + x2)) 422) (cond (zi_ix (zi_w (48 + x2)) 422) (some (zi_w ((zi_w ((zi_w (1000 * (zi_w (r2 + 12)))) + (zi_w (10 * (zi_w ((zi_w ((g0 (zi_w (24 + x2))) - (zi_div x1 24))) + 12)))))) + (g0 (zi_w (48 + x2)))))) none) none))
theorem zd277_0 : decode zxm277.2.1 0 = .ok (.sipush 1000, 3) := by decide +kernel
theorem zd277_3 : decode zxm277.2.1 3 = .ok (.iload_n 1, 1) := by decide +kernel
theorem zd277_4 : decode zxm277.2.1 4 = .ok (.bipush 24, 2) := by decide +kernel
theorem zd277_6 : decode zxm277.2.1 6 = .ok (.irem, 1) := by decide +kernel
theorem zd277_7 : decode zxm277.2.1 7 = .ok (.aload_n 0, 1) := by decide +kernel
theorem zd277_8 : decode zxm277.2.1 8 = .ok (.iload_n 2, 1) := by decide +kernel
theorem zd277_9 : decode zxm277.2.1 9 = .ok (.invokevirtual 281, 3) := by decide +kernel
theorem zd277_12 : decode zxm277.2.1 12 = .ok (.invokestatic 142, 3) := by decide +kernel
theorem zd277_15 : decode zxm277.2.1 15 = .ok (.bipush 12, 2) := by decide +kernel
theorem zd277_17 : decode zxm277.2.1 17 = .ok (.iadd, 1) := by decide +kernel
theorem zd277_18 : decode zxm277.2.1 18 = .ok (.imul, 1) := by decide +kernel
theorem zd277_19 : decode zxm277.2.1 19 = .ok (.bipush 10, 2) := by decide +kernel
theorem zd277_21 : decode zxm277.2.1 21 = .ok (.aload_n 0, 1) := by decide +kernel
theorem zd277_22 : decode zxm277.2.1 22 = .ok (.getfield 7, 3) := by decide +kernel
theorem zd277_25 : decode zxm277.2.1 25 = .ok (.bipush 24, 2) := by decide +kernel
theorem zd277_27 : decode zxm277.2.1 27 = .ok (.iload_n 2, 1) := by decide +kernel
theorem zd277_28 : decode zxm277.2.1 28 = .ok (.iadd, 1) := by decide +kernel
theorem zd277_29 : decode zxm277.2.1 29 = .ok (.iaload, 1) := by decide +kernel
theorem zd277_30 : decode zxm277.2.1 30 = .ok (.iload_n 1, 1) := by decide +kernel
theorem zd277_31 : decode zxm277.2.1 31 = .ok (.bipush 24, 2) := by decide +kernel
theorem zd277_33 : decode zxm277.2.1 33 = .ok (.idiv, 1) := by decide +kernel
theorem zd277_34 : decode zxm277.2.1 34 = .ok (.isub, 1) := by decide +kernel
theorem zd277_35 : decode zxm277.2.1 35 = .ok (.bipush 12, 2) := by decide +kernel
theorem zd277_37 : decode zxm277.2.1 37 = .ok (.iadd, 1) := by decide +kernel
theorem zd277_38 : decode zxm277.2.1 38 = .ok (.imul, 1) := by decide +kernel
theorem zd277_39 : decode zxm277.2.1 39 = .ok (.iadd, 1) := by decide +kernel
theorem zd277_40 : decode zxm277.2.1 40 = .ok (.aload_n 0, 1) := by decide +kernel
theorem zd277_41 : decode zxm277.2.1 41 = .ok (.getfield 7, 3) := by decide +kernel
theorem zd277_44 : decode zxm277.2.1 44 = .ok (.bipush 48, 2) := by decide +kernel
theorem zd277_46 : decode zxm277.2.1 46 = .ok (.iload_n 2, 1) := by decide +kernel
theorem zd277_47 : decode zxm277.2.1 47 = .ok (.iadd, 1) := by decide +kernel
theorem zd277_48 : decode zxm277.2.1 48 = .ok (.iaload, 1) := by decide +kernel
theorem zd277_49 : decode zxm277.2.1 49 = .ok (.iadd, 1) := by decide +kernel
theorem zd277_50 : decode zxm277.2.1 50 = .ok (.ireturn, 1) := by decide +kernel
theorem zt_M_partOf {x1 : Int} {x2 : Int} {g0 : (Int → Int)} {o : Int} (h : zf_M_partOf x1 x2 g0 = some o) : zv_Fn z_TB z_cl z_KX zy_M_partOf zxm277 (1, 60) [.inr 0, .inl x1, .inl x2] [] [g0] (some o) [] [g0] := zv_meth (K := (z_KF13, z_KC13, z_KL13, z_KT13, [], [], [], none)) (FT := z_FT) (MT := z_MT) (n := 3) zxp277 (z_ks13 _ (fun _ h => List.mem_cons_of_mem _ h) _ _ _ _ (fun j r h _ => by cases h)) (fun _ _ => zs_KX_p) zyw_M_partOf (fun va F G h => by obtain ⟨rfl, _⟩ := h; rfl) (fun va F G h => by obtain ⟨rfl, _⟩ := h; rfl) rfl fun good va F G hB hret hvret hP => by
  obtain ⟨rfl, rfl, rfl⟩ := hP
  unfold zf_M_partOf at h
  refine zv_con hB zd277_0 rfl ?_
  refine zv_ild hB zd277_3 rfl rfl ?_
  refine zv_con hB zd277_4 rfl ?_
  refine zv_remw hB zd277_6 (by decide) ?_
  refine zv_ald hB zd277_7 rfl rfl rfl ?_
  refine zv_ild hB zd277_8 rfl rfl ?_
  obtain ⟨r1, hr1, h⟩ := zi_bind h
  refine zv_cv hB (zv_emq (va2 := [.inr 0, .inl x2]) (F := []) (F' := []) (G := [g0]) (G' := [g0]) (ρ := [0, 1]) (φ := []) (ψ := [0]) [] [some 0] zyw_M_standsAt zyw_M_partOf zye_M_partOf (by decide +kernel) (zt_M_standsAt hr1) trivial ⟨rfl, trivial⟩ rfl rfl rfl rfl rfl rfl rfl) zd277_9 zxt238 rfl (by decide) (by decide) rfl ?_
  obtain ⟨r2, hr2, h⟩ := zi_bind h
  refine zv_cs hB (zv_emq (va2 := [.inl (zi_rem x1 24), .inl r1]) (F := []) (F' := []) (G := [g0]) (G' := [g0]) (ρ := []) (φ := []) (ψ := []) [] [none] zyw_M_toRight zyw_M_partOf zye_M_partOf (by decide +kernel) (zt_M_toRight hr2) trivial trivial rfl rfl rfl rfl rfl rfl rfl) zd277_12 zxt242 rfl (by decide) (by decide) rfl ?_
  refine zv_con hB zd277_15 rfl ?_
  refine zv_addw hB zd277_17 ?_
  refine zv_mulw hB zd277_18 ?_
  refine zv_con hB zd277_19 rfl ?_
  refine zv_ald hB zd277_21 rfl rfl rfl ?_
  refine zv_getr hB zd277_22 rfl ?_
  refine zv_con hB zd277_25 rfl ?_
  refine zv_ild hB zd277_27 rfl rfl ?_
  refine zv_addw hB zd277_28 ?_
  obtain ⟨c3, h⟩ := zi_if h
  refine zv_iald hB zd277_29 rfl rfl (zi_ix_ok c3).1 (zi_ix_ok c3).2 (fun _ _ => ?_)
  refine zv_ild hB zd277_30 rfl rfl ?_
  refine zv_con hB zd277_31 rfl ?_
  refine zv_divw hB zd277_33 (by decide) ?_
  refine zv_subw hB zd277_34 ?_
  refine zv_con hB zd277_35 rfl ?_
  refine zv_addw hB zd277_37 ?_
  refine zv_mulw hB zd277_38 ?_
  refine zv_addw hB zd277_39 ?_
  refine zv_ald hB zd277_40 rfl rfl rfl ?_
  refine zv_getr hB zd277_41 rfl ?_
  refine zv_con hB zd277_44 rfl ?_
  refine zv_ild hB zd277_46 rfl rfl ?_
  refine zv_addw hB zd277_47 ?_
  obtain ⟨c4, h⟩ := zi_if h
  refine zv_iald hB zd277_48 rfl rfl (zi_ix_ok c4).1 (zi_ix_ok c4).2 (fun _ _ => ?_)
  refine zv_addw hB zd277_49 ?_
  have hw := Option.some.inj h
  subst hw
  exact hret _ _ _ _ _ zd277_50 (by trivial) ⟨rfl, rfl, rfl⟩
/-! M_puts_24 ([III)V -/
-- names: 0 (0, 24)('arg', 0)
-- fields: ; arrays: g0 = 0; out: [('g', 0)]
abbrev zy_M_puts_24 : zNL := (1, [], [], [], [(0, 0, 24, 0)])
theorem zyw_M_puts_24 : zv_wf zy_M_puts_24 = true := by decide +kernel
theorem zye_M_puts_24 : zv_ek2 zy_M_puts_24 = true := by decide +kernel
def zf_M_puts_24_l0_b (x2 : Int) (rec : Int → (Int → Int) → Option (Int × (Int → Int))) (x3 : Int) (g0 : (Int → Int)) : Option (Int × (Int → Int)) := if 0 < x3 then (cond (zi_ix (zi_w (x3 - 1)) 24) (if x2 < (g0 (zi_w (x3 - 1))) then (cond (zi_ix x3 24) (rec (zi_w (x3 - 1)) (zv_up g0 x3 (g0 (zi_w (x3 - 1))))) none) else (some (x3, g0))) none) else (some (x3, g0))
def zf_M_puts_24_l0 (x2 : Int) : Nat → Int → (Int → Int) → Option (Int × (Int → Int))
  | 0, _, _ => none
  | n + 1, x3, g0 => zf_M_puts_24_l0_b x2 (zf_M_puts_24_l0 x2 n) x3 g0
def zf_M_puts_24 (x1 : Int) (x2 : Int) (g0 : (Int → Int)) : Option ((Int → Int)) := (zf_M_puts_24_l0 x2 zi_fu x1 g0).bind fun q5 => (cond (zi_ix q5.1 24) (some (zv_up q5.2 q5.1 x2)) none)
theorem zd278_0 : decode zxm278.2.1 0 = .ok (.iload_n 1, 1) := by decide +kernel
theorem zd278_1 : decode zxm278.2.1 1 = .ok (.istore_n 3, 1) := by decide +kernel
theorem zd278_2 : decode zxm278.2.1 2 = .ok (.iload_n 3, 1) := by decide +kernel
theorem zd278_3 : decode zxm278.2.1 3 = .ok (.ifCond .le 27, 3) := by decide +kernel
theorem zd278_6 : decode zxm278.2.1 6 = .ok (.aload_n 0, 1) := by decide +kernel
theorem zd278_7 : decode zxm278.2.1 7 = .ok (.iload_n 3, 1) := by decide +kernel
theorem zd278_8 : decode zxm278.2.1 8 = .ok (.iconst 1, 1) := by decide +kernel
theorem zd278_9 : decode zxm278.2.1 9 = .ok (.isub, 1) := by decide +kernel
theorem zd278_10 : decode zxm278.2.1 10 = .ok (.iaload, 1) := by decide +kernel
theorem zd278_11 : decode zxm278.2.1 11 = .ok (.iload_n 2, 1) := by decide +kernel
theorem zd278_12 : decode zxm278.2.1 12 = .ok (.if_icmp .le 18, 3) := by decide +kernel
theorem zd278_15 : decode zxm278.2.1 15 = .ok (.aload_n 0, 1) := by decide +kernel
theorem zd278_16 : decode zxm278.2.1 16 = .ok (.iload_n 3, 1) := by decide +kernel
theorem zd278_17 : decode zxm278.2.1 17 = .ok (.aload_n 0, 1) := by decide +kernel
theorem zd278_18 : decode zxm278.2.1 18 = .ok (.iload_n 3, 1) := by decide +kernel
theorem zd278_19 : decode zxm278.2.1 19 = .ok (.iconst 1, 1) := by decide +kernel
theorem zd278_20 : decode zxm278.2.1 20 = .ok (.isub, 1) := by decide +kernel
theorem zd278_21 : decode zxm278.2.1 21 = .ok (.iaload, 1) := by decide +kernel
theorem zd278_22 : decode zxm278.2.1 22 = .ok (.iastore, 1) := by decide +kernel
theorem zd278_23 : decode zxm278.2.1 23 = .ok (.iload_n 3, 1) := by decide +kernel
theorem zd278_24 : decode zxm278.2.1 24 = .ok (.iconst 1, 1) := by decide +kernel
theorem zd278_25 : decode zxm278.2.1 25 = .ok (.isub, 1) := by decide +kernel
theorem zd278_26 : decode zxm278.2.1 26 = .ok (.istore_n 3, 1) := by decide +kernel
theorem zd278_27 : decode zxm278.2.1 27 = .ok (.goto (-25), 3) := by decide +kernel
theorem zd278_30 : decode zxm278.2.1 30 = .ok (.aload_n 0, 1) := by decide +kernel
theorem zd278_31 : decode zxm278.2.1 31 = .ok (.iload_n 3, 1) := by decide +kernel
theorem zd278_32 : decode zxm278.2.1 32 = .ok (.iload_n 2, 1) := by decide +kernel
theorem zd278_33 : decode zxm278.2.1 33 = .ok (.iastore, 1) := by decide +kernel
theorem zd278_34 : decode zxm278.2.1 34 = .ok (.return_, 1) := by decide +kernel
theorem zt_M_puts_24 {x1 : Int} {x2 : Int} {g0 : (Int → Int)} {o : (Int → Int)} (h : zf_M_puts_24 x1 x2 g0 = some o) : zv_Fn z_TB z_cl z_KX zy_M_puts_24 zxm278 (0, 0) [.inr 0, .inl x1, .inl x2] [] [g0] none [] [o] := zv_meth (K := (z_KF13, z_KC13, z_KL13, z_KT13, [], [], [], none)) (FT := z_FT) (MT := z_MT) (n := 3) zxp278 (z_ks13 _ (fun _ h => List.mem_cons_of_mem _ h) _ _ _ _ (fun j r h _ => by cases h)) (fun _ _ => zs_KX_p) zyw_M_puts_24 (fun va F G h => by obtain ⟨rfl, _⟩ := h; rfl) (fun va F G h => by obtain ⟨rfl, _⟩ := h; rfl) rfl fun good va F G hB hret hvret hP => by
  obtain ⟨rfl, rfl, rfl⟩ := hP
  have l0 : ∀ (n : Nat) (x2 : Int) (x3 : Int) (g0 : (Int → Int)) (q : Int × (Int → Int)), zf_M_puts_24_l0 x2 n x3 g0 = some q → (good 30 [.inr 0, .inr 1000, .inl x2, .inl q.1] [] [] [q.2]) → good 2 [.inr 0, .inr 1000, .inl x2, .inl x3] [] [] [g0] := by
    intro n
    induction n with
    | zero => intro x2 x3 g0 q h; exact absurd (show none = some q from h) (fun h => by cases h)
    | succ n ih =>
      intro x2 x3 g0 q h hK
      replace h : zf_M_puts_24_l0_b x2 (zf_M_puts_24_l0 x2 n) x3 g0 = some q := h
      unfold zf_M_puts_24_l0_b at h
      refine zv_ild hB zd278_2 rfl rfl ?_
      refine zv_zle hB zd278_3 rfl (fun hc1 => ?_) (fun hc1 => ?_)
      · rw [if_neg (Int.not_lt.mpr hc1)] at h
        have hq := Option.some.inj h
        subst hq
        exact hK
      · rw [if_pos hc1] at h
        refine zv_ald hB zd278_6 rfl rfl rfl ?_
        refine zv_ild hB zd278_7 rfl rfl ?_
        refine zv_con hB zd278_8 rfl ?_
        refine zv_subw hB zd278_9 ?_
        obtain ⟨c2, h⟩ := zi_if h
        refine zv_iald hB zd278_10 rfl rfl (zi_ix_ok c2).1 (zi_ix_ok c2).2 (fun _ _ => ?_)
        refine zv_ild hB zd278_11 rfl rfl ?_
        refine zv_cle hB zd278_12 rfl (fun hc3 => ?_) (fun hc3 => ?_)
        · rw [if_neg (Int.not_lt.mpr hc3)] at h
          have hq := Option.some.inj h
          subst hq
          exact hK
        · rw [if_pos hc3] at h
          refine zv_ald hB zd278_15 rfl rfl rfl ?_
          refine zv_ild hB zd278_16 rfl rfl ?_
          refine zv_ald hB zd278_17 rfl rfl rfl ?_
          refine zv_ild hB zd278_18 rfl rfl ?_
          refine zv_con hB zd278_19 rfl ?_
          refine zv_subw hB zd278_20 ?_
          refine zv_iald hB zd278_21 rfl rfl (zi_ix_ok c2).1 (zi_ix_ok c2).2 (fun _ _ => ?_)
          obtain ⟨c4, h⟩ := zi_if h
          refine zv_iast hB zd278_22 rfl rfl (zi_ix_ok c4).1 (zi_ix_ok c4).2 ?_
          refine zv_ild hB zd278_23 rfl rfl ?_
          refine zv_con hB zd278_24 rfl ?_
          refine zv_subw hB zd278_25 ?_
          refine zv_ist hB zd278_26 rfl rfl rfl ?_
          refine zv_goto hB zd278_27 rfl ?_
          exact ih _ _ _ q h hK
  unfold zf_M_puts_24 at h
  refine zv_ild hB zd278_0 rfl rfl ?_
  refine zv_ist hB zd278_1 rfl rfl rfl ?_
  obtain ⟨q5, hq5, h⟩ := zi_bind h
  refine zv_wk hB (L' := [.inr 0, .inr 1000, .inl x2, .inl x1]) (F' := []) ⟨fun _ => rfl, fun (h : zv_is (.inr 1000)) => (Nat.lt_irrefl 1000 h).elim, fun _ => rfl, fun _ => rfl, trivial⟩ trivial ?_
  refine l0 _ _ _ _ q5 hq5 ?_
  show good 30 [.inr 0, .inr 1000, .inl x2, .inl q5.1] [] [] [q5.2]
  refine zv_ald hB zd278_30 rfl rfl rfl ?_
  refine zv_ild hB zd278_31 rfl rfl ?_
  refine zv_ild hB zd278_32 rfl rfl ?_
  obtain ⟨c6, h⟩ := zi_if h
  refine zv_iast hB zd278_33 rfl rfl (zi_ix_ok c6).1 (zi_ix_ok c6).2 ?_
  have hw := Option.some.inj h
  subst hw
  exact hvret _ _ _ _ zd278_34 trivial ⟨rfl, rfl, rfl⟩
end
