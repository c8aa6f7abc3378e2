/-! Methods as functions, and that they do what these do. -/
/-! LawReader_read (ILStarTales$Law;)I -/
-- names: 0 LawReader('arg', 0), 1 Law('arg', 2), 2 (0, 220)(0, 5, 0), 3 (0, 200)(1, 4, 0), 4 (0, 200)(1, 4, 1), 5 (0, 14)(1, 4, 3), 6 (0, 14)(1, 4, 4), 7 (0, 14)(1, 4, 5), 8 (0, 14)(1, 4, 6)
-- fields: f0 = 0.length_, f1 = 0.at_, f2 = 0.fault_, f3 = 0.law_, f4 = 1.steps_, f5 = 1.clauses_, f6 = 1.tellsSeen_, f7 = 1.tellsLines_, f8 = 1.seenByPlace_, f9 = 1.linesByPlace_; arrays: g0 = 2, g1 = 3, g2 = 4, g3 = 5, g4 = 6, g5 = 7, g6 = 8; out: [('ret', None), ('f', 0), ('f', 1), ('f', 2), ('f', 4), ('f', 5), ('f', 6), ('f', 7), ('f', 8), ('f', 9), ('g', 1), ('g', 2), ('g', 3), ('g', 4), ('g', 5), ('g', 6)]
abbrev zy_LawReader_read : zNL := (9, [(0, 5), (1, 4)], [(0, 5, 1, 0), (0, 5, 2, 1), (0, 5, 3, 2), (0, 5, 4, 3), (1, 4, 2, 4), (1, 4, 7, 5), (1, 4, 8, 6), (1, 4, 9, 7), (1, 4, 10, 8), (1, 4, 11, 9)], [(0, 5, 0, 2), (1, 4, 0, 3), (1, 4, 1, 4), (1, 4, 3, 5), (1, 4, 4, 6), (1, 4, 5, 7), (1, 4, 6, 8)], [(2, 0, 220, 0), (3, 0, 200, 1), (4, 0, 200, 2), (5, 0, 14, 3), (6, 0, 14, 4), (7, 0, 14, 5), (8, 0, 14, 6)])
theorem zyw_LawReader_read : zv_wf zy_LawReader_read = true := by decide +kernel
theorem zye_LawReader_read : zv_ek2 zy_LawReader_read = true := by decide +kernel
def zf_LawReader_read_l0_b (f0 : Int) (g0 : (Int → Int)) (rec : Int → Int → Int → Int → Int → Int → Int → Int → Int → (Int → Int) → (Int → Int) → (Int → Int) → (Int → Int) → (Int → Int) → (Int → Int) → Option (Int × Int × Int × Int × Int × Int × Int × Int × (Int → Int) × (Int → Int) × (Int → Int) × (Int → Int) × (Int → Int) × (Int → Int))) (x3 : Int) (f1 : Int) (f2 : Int) (f4 : Int) (f5 : Int) (f6 : Int) (f7 : Int) (f8 : Int) (f9 : Int) (g1 : (Int → Int)) (g2 : (Int → Int)) (g3 : (Int → Int)) (g4 : (Int → Int)) (g5 : (Int → Int)) (g6 : (Int → Int)) : Option (Int × Int × Int × Int × Int × Int × Int × Int × (Int → Int) × (Int → Int) × (Int → Int) × (Int → Int) × (Int → Int) × (Int → Int)) := if x3 < 14 then (if f2 = 0 then (if f1 < f0 then ((zf_LawReader_skip 59 f2 f1 f0 g0).bind fun r7 => ((zf_LawReader_readClause r7.1 r7.2 f0 f5 f4 f7 f9 f6 f8 g0 g1 g2 g3 g4 g5 g6).bind fun r8 => (rec (zi_w (x3 + 1)) r8.2.1 r8.1 r8.2.2.2.1 r8.2.2.1 r8.2.2.2.2.2.2.1 r8.2.2.2.2.1 r8.2.2.2.2.2.2.2.1 r8.2.2.2.2.2.1 r8.2.2.2.2.2.2.2.2.1 r8.2.2.2.2.2.2.2.2.2.1 r8.2.2.2.2.2.2.2.2.2.2.1 r8.2.2.2.2.2.2.2.2.2.2.2.1 r8.2.2.2.2.2.2.2.2.2.2.2.2.1 r8.2.2.2.2.2.2.2.2.2.2.2.2.2))) else (some (f1, f2, f4, f5, f6, f7, f8, f9, g1, g2, g3, g4, g5, g6))) else (some (f1, f2, f4, f5, f6, f7, f8, f9, g1, g2, g3, g4, g5, g6))) else (some (f1, f2, f4, f5, f6, f7, f8, f9, g1, g2, g3, g4, g5, g6))
def zf_LawReader_read_l0 (f0 : Int) (g0 : (Int → Int)) : Nat → Int → Int → Int → Int → Int → Int → Int → Int → Int → (Int → Int) → (Int → Int) → (Int → Int) → (Int → Int) → (Int → Int) → (Int → Int) → Option (Int × Int × Int × Int × Int × Int × Int × Int × (Int → Int) × (Int → Int) × (Int → Int) × (Int → Int) × (Int → Int) × (Int → Int))
  | 0, _, _, _, _, _, _, _, _, _, _, _, _, _, _, _ => none
  | n + 1, x3, f1, f2, f4, f5, f6, f7, f8, f9, g1, g2, g3, g4, g5, g6 => zf_LawReader_read_l0_b f0 g0 (zf_LawReader_read_l0 f0 g0 n) x3 f1 f2 f4 f5 f6 f7 f8 f9 g1 g2 g3 g4 g5 g6
def zf_LawReader_read (x1 : Int) (f0 : Int) (f1 : Int) (f2 : Int) (f4 : Int) (f5 : Int) (f6 : Int) (f7 : Int) (f8 : Int) (f9 : Int) (g0 : (Int → Int)) (g1 : (Int → Int)) (g2 : (Int → Int)) (g3 : (Int → Int)) (g4 : (Int → Int)) (g5 : (Int → Int)) (g6 : (Int → Int)) : Option (Int × Int × Int × Int × Int × Int × Int × Int × Int × Int × (Int → Int) × (Int → Int) × (Int → Int) × (Int → Int) × (Int → Int) × (Int → Int)) := (zf_Math_min x1 220).bind fun r1 => ((zf_Law_clear f4 f5 f6 f7 f8 f9).bind fun r2 => ((zf_LawReader_readClause 0 0 r1 r2.2.1 r2.1 r2.2.2.2.1 r2.2.2.2.2.2 r2.2.2.1 r2.2.2.2.2.1 g0 g1 g2 g3 g4 g5 g6).bind fun r3 => ((zf_LawReader_read_l0 r1 g0 zi_fu 0 r3.2.1 r3.1 r3.2.2.2.1 r3.2.2.1 r3.2.2.2.2.2.2.1 r3.2.2.2.2.1 r3.2.2.2.2.2.2.2.1 r3.2.2.2.2.2.1 r3.2.2.2.2.2.2.2.2.1 r3.2.2.2.2.2.2.2.2.2.1 r3.2.2.2.2.2.2.2.2.2.2.1 r3.2.2.2.2.2.2.2.2.2.2.2.1 r3.2.2.2.2.2.2.2.2.2.2.2.2.1 r3.2.2.2.2.2.2.2.2.2.2.2.2.2).bind fun q9 => (if q9.2.1 = 0 then (some (q9.2.2.2.1, r1, q9.1, q9.2.1, q9.2.2.1, q9.2.2.2.1, q9.2.2.2.2.1, q9.2.2.2.2.2.1, q9.2.2.2.2.2.2.1, q9.2.2.2.2.2.2.2.1, q9.2.2.2.2.2.2.2.2.1, q9.2.2.2.2.2.2.2.2.2.1, q9.2.2.2.2.2.2.2.2.2.2.1, q9.2.2.2.2.2.2.2.2.2.2.2.1, q9.2.2.2.2.2.2.2.2.2.2.2.2.1, q9.2.2.2.2.2.2.2.2.2.2.2.2.2)) else (some (q9.2.1, r1, q9.1, q9.2.1, q9.2.2.1, q9.2.2.2.1, q9.2.2.2.2.1, q9.2.2.2.2.2.1, q9.2.2.2.2.2.2.1, q9.2.2.2.2.2.2.2.1, q9.2.2.2.2.2.2.2.2.1, q9.2.2.2.2.2.2.2.2.2.1, q9.2.2.2.2.2.2.2.2.2.2.1, q9.2.2.2.2.2.2.2.2.2.2.2.1, q9.2.2.2.2.2.2.2.2.2.2.2.2.1, q9.2.2.2.2.2.2.2.2.2.2.2.2.2))))))
theorem zd36_0 : decode zxm36.2.1 0 = .ok (.aload_n 0, 1) := by decide +kernel
theorem zd36_1 : decode zxm36.2.1 1 = .ok (.iload_n 1, 1) := by decide +kernel
theorem zd36_2 : decode zxm36.2.1 2 = .ok (.aload_n 0, 1) := by decide +kernel
theorem zd36_3 : decode zxm36.2.1 3 = .ok (.getfield 21, 3) := by decide +kernel
theorem zd36_6 : decode zxm36.2.1 6 = .ok (.arraylength, 1) := by decide +kernel
theorem zd36_7 : decode zxm36.2.1 7 = .ok (.invokestatic 29, 3) := by decide +kernel
theorem zd36_10 : decode zxm36.2.1 10 = .ok (.putfield 9, 3) := by decide +kernel
theorem zd36_13 : decode zxm36.2.1 13 = .ok (.aload_n 0, 1) := by decide +kernel
theorem zd36_14 : decode zxm36.2.1 14 = .ok (.iconst 0, 1) := by decide +kernel
theorem zd36_15 : decode zxm36.2.1 15 = .ok (.putfield 15, 3) := by decide +kernel
theorem zd36_18 : decode zxm36.2.1 18 = .ok (.aload_n 0, 1) := by decide +kernel
theorem zd36_19 : decode zxm36.2.1 19 = .ok (.iconst 0, 1) := by decide +kernel
theorem zd36_20 : decode zxm36.2.1 20 = .ok (.putfield 18, 3) := by decide +kernel
theorem zd36_23 : decode zxm36.2.1 23 = .ok (.aload_n 0, 1) := by decide +kernel
theorem zd36_24 : decode zxm36.2.1 24 = .ok (.aload_n 2, 1) := by decide +kernel
theorem zd36_25 : decode zxm36.2.1 25 = .ok (.putfield 25, 3) := by decide +kernel
theorem zd36_28 : decode zxm36.2.1 28 = .ok (.aload_n 0, 1) := by decide +kernel
theorem zd36_29 : decode zxm36.2.1 29 = .ok (.getfield 25, 3) := by decide +kernel
theorem zd36_32 : decode zxm36.2.1 32 = .ok (.invokevirtual 35, 3) := by decide +kernel
theorem zd36_35 : decode zxm36.2.1 35 = .ok (.aload_n 0, 1) := by decide +kernel
theorem zd36_36 : decode zxm36.2.1 36 = .ok (.invokevirtual 40, 3) := by decide +kernel
theorem zd36_39 : decode zxm36.2.1 39 = .ok (.iconst 0, 1) := by decide +kernel
theorem zd36_40 : decode zxm36.2.1 40 = .ok (.istore_n 3, 1) := by decide +kernel
theorem zd36_41 : decode zxm36.2.1 41 = .ok (.iload_n 3, 1) := by decide +kernel
theorem zd36_42 : decode zxm36.2.1 42 = .ok (.bipush 14, 2) := by decide +kernel
theorem zd36_44 : decode zxm36.2.1 44 = .ok (.if_icmp .ge 37, 3) := by decide +kernel
theorem zd36_47 : decode zxm36.2.1 47 = .ok (.aload_n 0, 1) := by decide +kernel
theorem zd36_48 : decode zxm36.2.1 48 = .ok (.getfield 18, 3) := by decide +kernel
theorem zd36_51 : decode zxm36.2.1 51 = .ok (.ifCond .ne 30, 3) := by decide +kernel
theorem zd36_54 : decode zxm36.2.1 54 = .ok (.aload_n 0, 1) := by decide +kernel
theorem zd36_55 : decode zxm36.2.1 55 = .ok (.getfield 15, 3) := by decide +kernel
theorem zd36_58 : decode zxm36.2.1 58 = .ok (.aload_n 0, 1) := by decide +kernel
theorem zd36_59 : decode zxm36.2.1 59 = .ok (.getfield 9, 3) := by decide +kernel
theorem zd36_62 : decode zxm36.2.1 62 = .ok (.if_icmp .ge 19, 3) := by decide +kernel
theorem zd36_65 : decode zxm36.2.1 65 = .ok (.aload_n 0, 1) := by decide +kernel
theorem zd36_66 : decode zxm36.2.1 66 = .ok (.bipush 59, 2) := by decide +kernel
theorem zd36_68 : decode zxm36.2.1 68 = .ok (.invokevirtual 43, 3) := by decide +kernel
theorem zd36_71 : decode zxm36.2.1 71 = .ok (.aload_n 0, 1) := by decide +kernel
theorem zd36_72 : decode zxm36.2.1 72 = .ok (.invokevirtual 40, 3) := by decide +kernel
theorem zd36_75 : decode zxm36.2.1 75 = .ok (.iinc 3 1, 3) := by decide +kernel
theorem zd36_78 : decode zxm36.2.1 78 = .ok (.goto (-37), 3) := by decide +kernel
theorem zd36_81 : decode zxm36.2.1 81 = .ok (.aload_n 0, 1) := by decide +kernel
theorem zd36_82 : decode zxm36.2.1 82 = .ok (.getfield 18, 3) := by decide +kernel
theorem zd36_85 : decode zxm36.2.1 85 = .ok (.ifCond .eq 10, 3) := by decide +kernel
theorem zd36_88 : decode zxm36.2.1 88 = .ok (.aload_n 0, 1) := by decide +kernel
theorem zd36_89 : decode zxm36.2.1 89 = .ok (.getfield 18, 3) := by decide +kernel
theorem zd36_92 : decode zxm36.2.1 92 = .ok (.goto 10, 3) := by decide +kernel
theorem zd36_95 : decode zxm36.2.1 95 = .ok (.aload_n 0, 1) := by decide +kernel
theorem zd36_96 : decode zxm36.2.1 96 = .ok (.getfield 25, 3) := by decide +kernel
theorem zd36_99 : decode zxm36.2.1 99 = .ok (.getfield 47, 3) := by decide +kernel
theorem zd36_102 : decode zxm36.2.1 102 = .ok (.ireturn, 1) := by decide +kernel
theorem zt_LawReader_read {x1 : Int} {f0 : Int} {f1 : Int} {f2 : Int} {f4 : Int} {f5 : Int} {f6 : Int} {f7 : Int} {f8 : Int} {f9 : Int} {g0 : (Int → Int)} {g1 : (Int → Int)} {g2 : (Int → Int)} {g3 : (Int → Int)} {g4 : (Int → Int)} {g5 : (Int → Int)} {g6 : (Int → Int)} {o : Int × Int × Int × Int × Int × Int × Int × Int × Int × Int × (Int → Int) × (Int → Int) × (Int → Int) × (Int → Int) × (Int → Int) × (Int → Int)} (h : zf_LawReader_read x1 f0 f1 f2 f4 f5 f6 f7 f8 f9 g0 g1 g2 g3 g4 g5 g6 = some o) : zv_Fn z_TB z_cl z_KX zy_LawReader_read zxm36 (80, 4800) [.inr 0, .inl x1, .inr 1] [.inl f0, .inl f1, .inl f2, .inr 1000, .inl f4, .inl f5, .inl f6, .inl f7, .inl f8, .inl f9] [g0, g1, g2, g3, g4, g5, g6] (some o.1) [.inl o.2.1, .inl o.2.2.1, .inl o.2.2.2.1, .inr 1, .inl o.2.2.2.2.1, .inl o.2.2.2.2.2.1, .inl o.2.2.2.2.2.2.1, .inl o.2.2.2.2.2.2.2.1, .inl o.2.2.2.2.2.2.2.2.1, .inl o.2.2.2.2.2.2.2.2.2.1] [g0, o.2.2.2.2.2.2.2.2.2.2.1, o.2.2.2.2.2.2.2.2.2.2.2.1, o.2.2.2.2.2.2.2.2.2.2.2.2.1, o.2.2.2.2.2.2.2.2.2.2.2.2.2.1, o.2.2.2.2.2.2.2.2.2.2.2.2.2.2.1, o.2.2.2.2.2.2.2.2.2.2.2.2.2.2.2] := zv_meth (K := (z_KF3, z_KC3, z_KL3, z_KT3, [], [], [], none)) (FT := z_FT) (MT := z_MT) (n := 3) zxp36 (z_ks3 _ (fun _ h => List.mem_cons_of_mem _ h) _ _ _ _ (fun j r h _ => by cases h)) (fun _ _ => zs_KX_p) zyw_LawReader_read (fun va F G h => by obtain ⟨rfl, _⟩ := h; rfl) (fun va F G h => by obtain ⟨rfl, _⟩ := h; rfl) rfl fun good va F G hB hret hvret hP => by
  obtain ⟨rfl, rfl, rfl⟩ := hP
  have l0 : ∀ (n : Nat) (x3 : Int) (f0 : Int) (f1 : Int) (f2 : Int) (f4 : Int) (f5 : Int) (f6 : Int) (f7 : Int) (f8 : Int) (f9 : Int) (g1 : (Int → Int)) (g2 : (Int → Int)) (g3 : (Int → Int)) (g4 : (Int → Int)) (g5 : (Int → Int)) (g6 : (Int → Int)) (q : Int × Int × Int × Int × Int × Int × Int × Int × (Int → Int) × (Int → Int) × (Int → Int) × (Int → Int) × (Int → Int) × (Int → Int)), zf_LawReader_read_l0 f0 g0 n x3 f1 f2 f4 f5 f6 f7 f8 f9 g1 g2 g3 g4 g5 g6 = some q → (good 81 [.inr 0, .inr 1000, .inr 1000, .inr 1000] [] [.inl f0, .inl q.1, .inl q.2.1, .inr 1, .inl q.2.2.1, .inl q.2.2.2.1, .inl q.2.2.2.2.1, .inl q.2.2.2.2.2.1, .inl q.2.2.2.2.2.2.1, .inl q.2.2.2.2.2.2.2.1] [g0, q.2.2.2.2.2.2.2.2.1, q.2.2.2.2.2.2.2.2.2.1, q.2.2.2.2.2.2.2.2.2.2.1, q.2.2.2.2.2.2.2.2.2.2.2.1, q.2.2.2.2.2.2.2.2.2.2.2.2.1, q.2.2.2.2.2.2.2.2.2.2.2.2.2]) → good 41 [.inr 0, .inr 1000, .inr 1000, .inl x3] [] [.inl f0, .inl f1, .inl f2, .inr 1, .inl f4, .inl f5, .inl f6, .inl f7, .inl f8, .inl f9] [g0, g1, g2, g3, g4, g5, g6] := by
    intro n
    induction n with
    | zero => intro x3 f0 f1 f2 f4 f5 f6 f7 f8 f9 g1 g2 g3 g4 g5 g6 q h; exact absurd (show none = some q from h) (fun h => by cases h)
    | succ n ih =>
      intro x3 f0 f1 f2 f4 f5 f6 f7 f8 f9 g1 g2 g3 g4 g5 g6 q h hK
      replace h : zf_LawReader_read_l0_b f0 g0 (zf_LawReader_read_l0 f0 g0 n) x3 f1 f2 f4 f5 f6 f7 f8 f9 g1 g2 g3 g4 g5 g6 = some q := h
      unfold zf_LawReader_read_l0_b at h
      refine zv_ild hB zd36_41 rfl rfl ?_
      refine zv_con hB zd36_42 rfl ?_
      refine zv_cge hB zd36_44 rfl (fun hc4 => ?_) (fun hc4 => ?_)
      · rw [if_neg (Int.not_lt.mpr hc4)] at h
        have hq := Option.some.inj h
        subst hq
        refine zv_wk hB (L' := [.inr 0, .inr 1000, .inr 1000, .inr 1000]) (F' := [.inl f0, .inl f1, .inl f2, .inr 1, .inl f4, .inl f5, .inl f6, .inl f7, .inl f8, .inl f9]) ⟨fun _ => rfl, fun (h : zv_is (.inr 1000)) => (Nat.lt_irrefl 1000 h).elim, fun (h : zv_is (.inr 1000)) => (Nat.lt_irrefl 1000 h).elim, fun (h : zv_is (.inr 1000)) => (Nat.lt_irrefl 1000 h).elim, trivial⟩ ⟨fun _ => rfl, fun _ => rfl, fun _ => rfl, fun _ => rfl, fun _ => rfl, fun _ => rfl, fun _ => rfl, fun _ => rfl, fun _ => rfl, fun _ => rfl, trivial⟩ ?_
        exact hK
      · rw [if_pos hc4] at h
        refine zv_ald hB zd36_47 rfl rfl rfl ?_
        refine zv_getf hB zd36_48 rfl rfl (fun _ _ => ?_)
        refine zv_zne hB zd36_51 rfl (fun hc5 => ?_) (fun hc5 => ?_)
        · rw [if_neg hc5] at h
          have hq := Option.some.inj h
          subst hq
          refine zv_wk hB (L' := [.inr 0, .inr 1000, .inr 1000, .inr 1000]) (F' := [.inl f0, .inl f1, .inl f2, .inr 1, .inl f4, .inl f5, .inl f6, .inl f7, .inl f8, .inl f9]) ⟨fun _ => rfl, fun (h : zv_is (.inr 1000)) => (Nat.lt_irrefl 1000 h).elim, fun (h : zv_is (.inr 1000)) => (Nat.lt_irrefl 1000 h).elim, fun (h : zv_is (.inr 1000)) => (Nat.lt_irrefl 1000 h).elim, trivial⟩ ⟨fun _ => rfl, fun _ => rfl, fun _ => rfl, fun _ => rfl, fun _ => rfl, fun _ => rfl, fun _ => rfl, fun _ => rfl, fun _ => rfl, fun _ => rfl, trivial⟩ ?_
          exact hK
        · rw [if_pos hc5] at h
          refine zv_ald hB zd36_54 rfl rfl rfl ?_
          refine zv_getf hB zd36_55 rfl rfl (fun _ _ => ?_)
          refine zv_ald hB zd36_58 rfl rfl rfl ?_
          refine zv_getf hB zd36_59 rfl rfl (fun _ _ => ?_)
          refine zv_cge hB zd36_62 rfl (fun hc6 => ?_) (fun hc6 => ?_)
          · rw [if_neg (Int.not_lt.mpr hc6)] at h
            have hq := Option.some.inj h
            subst hq
            refine zv_wk hB (L' := [.inr 0, .inr 1000, .inr 1000, .inr 1000]) (F' := [.inl f0, .inl f1, .inl f2, .inr 1, .inl f4, .inl f5, .inl f6, .inl f7, .inl f8, .inl f9]) ⟨fun _ => rfl, fun (h : zv_is (.inr 1000)) => (Nat.lt_irrefl 1000 h).elim, fun (h : zv_is (.inr 1000)) => (Nat.lt_irrefl 1000 h).elim, fun (h : zv_is (.inr 1000)) => (Nat.lt_irrefl 1000 h).elim, trivial⟩ ⟨fun _ => rfl, fun _ => rfl, fun _ => rfl, fun _ => rfl, fun _ => rfl, fun _ => rfl, fun _ => rfl, fun _ => rfl, fun _ => rfl, fun _ => rfl, trivial⟩ ?_
            exact hK
          · rw [if_pos hc6] at h
            refine zv_ald hB zd36_65 rfl rfl rfl ?_
            refine zv_con hB zd36_66 rfl ?_
            obtain ⟨r7, hr7, h⟩ := zi_bind h
            refine zv_cv hB (zv_emq (va2 := [.inr 0, .inl 59]) (F := [.inl f0, .inl f1, .inl f2, .inr 1, .inl f4, .inl f5, .inl f6, .inl f7, .inl f8, .inl f9]) (F' := [.inl f0, .inl r7.2, .inl r7.1, .inr 1, .inl f4, .inl f5, .inl f6, .inl f7, .inl f8, .inl f9]) (G := [g0, g1, g2, g3, g4, g5, g6]) (G' := [g0, g1, g2, g3, g4, g5, g6]) (ρ := [0, 2]) (φ := [2, 1, 0]) (ψ := [0]) [some 2, some 1, some 0, none, none, none, none, none, none, none] [some 0, none, none, none, none, none, none] zyw_LawReader_skip zyw_LawReader_read zye_LawReader_read (by decide +kernel) (zt_LawReader_skip hr7) ⟨⟨_, rfl, fun _ => rfl⟩, ⟨_, rfl, fun _ => rfl⟩, ⟨_, rfl, fun _ => rfl⟩, trivial⟩ ⟨rfl, trivial⟩ rfl rfl rfl rfl rfl rfl rfl) zd36_68 zxt46 rfl (by decide) (by decide) rfl ?_
            refine zv_ald hB zd36_71 rfl rfl rfl ?_
            obtain ⟨r8, hr8, h⟩ := zi_bind h
            refine zv_cv hB (zv_emq (va2 := [.inr 0]) (F := [.inl f0, .inl r7.2, .inl r7.1, .inr 1, .inl f4, .inl f5, .inl f6, .inl f7, .inl f8, .inl f9]) (F' := [.inl f0, .inl r8.2.1, .inl r8.1, .inr 1, .inl r8.2.2.2.1, .inl r8.2.2.1, .inl r8.2.2.2.2.2.2.1, .inl r8.2.2.2.2.1, .inl r8.2.2.2.2.2.2.2.1, .inl r8.2.2.2.2.2.1]) (G := [g0, g1, g2, g3, g4, g5, g6]) (G' := [g0, r8.2.2.2.2.2.2.2.2.1, r8.2.2.2.2.2.2.2.2.2.1, r8.2.2.2.2.2.2.2.2.2.2.1, r8.2.2.2.2.2.2.2.2.2.2.2.1, r8.2.2.2.2.2.2.2.2.2.2.2.2.1, r8.2.2.2.2.2.2.2.2.2.2.2.2.2]) (ρ := [0, 2, 1, 3, 4, 5, 6, 7, 8]) (φ := [2, 1, 0, 3, 5, 4, 7, 9, 6, 8]) (ψ := [0, 1, 2, 3, 4, 5, 6]) [some 2, some 1, some 0, some 3, some 5, some 4, some 8, some 6, some 9, some 7] [some 0, some 1, some 2, some 3, some 4, some 5, some 6] zyw_LawReader_readClause zyw_LawReader_read zye_LawReader_read (by decide +kernel) (zt_LawReader_readClause hr8) ⟨⟨_, rfl, fun _ => rfl⟩, ⟨_, rfl, fun _ => rfl⟩, ⟨_, rfl, fun _ => rfl⟩, ⟨_, rfl, fun _ => rfl⟩, ⟨_, rfl, fun _ => rfl⟩, ⟨_, rfl, fun _ => rfl⟩, ⟨_, rfl, fun _ => rfl⟩, ⟨_, rfl, fun _ => rfl⟩, ⟨_, rfl, fun _ => rfl⟩, ⟨_, rfl, fun _ => rfl⟩, trivial⟩ ⟨rfl, rfl, rfl, rfl, rfl, rfl, rfl, trivial⟩ rfl rfl rfl rfl rfl rfl rfl) zd36_72 zxt39 rfl (by decide) (by decide) rfl ?_
            refine zv_iincw hB zd36_75 rfl rfl ?_
            refine zv_goto hB zd36_78 rfl ?_
            exact ih _ _ _ _ _ _ _ _ _ _ _ _ _ _ _ _ q h hK
  unfold zf_LawReader_read at h
  refine zv_ald hB zd36_0 rfl rfl rfl ?_
  refine zv_ild hB zd36_1 rfl rfl ?_
  refine zv_ald hB zd36_2 rfl rfl rfl ?_
  refine zv_getr hB zd36_3 rfl ?_
  refine zv_alen (v := 220) hB zd36_6 rfl rfl rfl rfl ?_
  obtain ⟨r1, hr1, h⟩ := zi_bind h
  refine zv_cs hB (zv_emq (va2 := [.inl x1, .inl 220]) (F := [.inl f0, .inl f1, .inl f2, .inr 1000, .inl f4, .inl f5, .inl f6, .inl f7, .inl f8, .inl f9]) (F' := [.inl f0, .inl f1, .inl f2, .inr 1000, .inl f4, .inl f5, .inl f6, .inl f7, .inl f8, .inl f9]) (G := [g0, g1, g2, g3, g4, g5, g6]) (G' := [g0, g1, g2, g3, g4, g5, g6]) (ρ := []) (φ := []) (ψ := []) [none, none, none, none, none, none, none, none, none, none] [none, none, none, none, none, none, none] zyw_Math_min zyw_LawReader_read zye_LawReader_read (by decide +kernel) (zt_Math_min hr1) trivial trivial rfl rfl rfl rfl rfl rfl rfl) zd36_7 zxt37 rfl (by decide) (by decide) rfl ?_
  refine zv_putf hB zd36_10 rfl rfl (fun h => by cases h) rfl ?_
  refine zv_ald hB zd36_13 rfl rfl rfl ?_
  refine zv_con hB zd36_14 rfl ?_
  refine zv_putf hB zd36_15 rfl rfl (fun h => by cases h) rfl ?_
  refine zv_ald hB zd36_18 rfl rfl rfl ?_
  refine zv_con hB zd36_19 rfl ?_
  refine zv_putf hB zd36_20 rfl rfl (fun h => by cases h) rfl ?_
  refine zv_ald hB zd36_23 rfl rfl rfl ?_
  refine zv_ald hB zd36_24 rfl rfl rfl ?_
  refine zv_putq hB zd36_25 rfl rfl (by decide) rfl ?_
  refine zv_ald hB zd36_28 rfl rfl rfl ?_
  refine zv_getq hB zd36_29 rfl rfl rfl ?_
  obtain ⟨r2, hr2, h⟩ := zi_bind h
  refine zv_cv hB (zv_emq (va2 := [.inr 1]) (F := [.inl r1, .inl 0, .inl 0, .inr 1, .inl f4, .inl f5, .inl f6, .inl f7, .inl f8, .inl f9]) (F' := [.inl r1, .inl 0, .inl 0, .inr 1, .inl r2.1, .inl r2.2.1, .inl r2.2.2.1, .inl r2.2.2.2.1, .inl r2.2.2.2.2.1, .inl r2.2.2.2.2.2]) (G := [g0, g1, g2, g3, g4, g5, g6]) (G' := [g0, g1, g2, g3, g4, g5, g6]) (ρ := [1]) (φ := [4, 5, 6, 7, 8, 9]) (ψ := []) [none, none, none, none, some 0, some 1, some 2, some 3, some 4, some 5] [none, none, none, none, none, none, none] zyw_Law_clear zyw_LawReader_read zye_LawReader_read (by decide +kernel) (zt_Law_clear hr2) ⟨⟨_, rfl, fun _ => rfl⟩, ⟨_, rfl, fun _ => rfl⟩, ⟨_, rfl, fun _ => rfl⟩, ⟨_, rfl, fun _ => rfl⟩, ⟨_, rfl, fun _ => rfl⟩, ⟨_, rfl, fun _ => rfl⟩, trivial⟩ trivial rfl rfl rfl rfl rfl rfl rfl) zd36_32 zxt38 rfl (by decide) (by decide) rfl ?_
  refine zv_ald hB zd36_35 rfl rfl rfl ?_
  obtain ⟨r3, hr3, h⟩ := zi_bind h
  refine zv_cv hB (zv_emq (va2 := [.inr 0]) (F := [.inl r1, .inl 0, .inl 0, .inr 1, .inl r2.1, .inl r2.2.1, .inl r2.2.2.1, .inl r2.2.2.2.1, .inl r2.2.2.2.2.1, .inl r2.2.2.2.2.2]) (F' := [.inl r1, .inl r3.2.1, .inl r3.1, .inr 1, .inl r3.2.2.2.1, .inl r3.2.2.1, .inl r3.2.2.2.2.2.2.1, .inl r3.2.2.2.2.1, .inl r3.2.2.2.2.2.2.2.1, .inl r3.2.2.2.2.2.1]) (G := [g0, g1, g2, g3, g4, g5, g6]) (G' := [g0, r3.2.2.2.2.2.2.2.2.1, r3.2.2.2.2.2.2.2.2.2.1, r3.2.2.2.2.2.2.2.2.2.2.1, r3.2.2.2.2.2.2.2.2.2.2.2.1, r3.2.2.2.2.2.2.2.2.2.2.2.2.1, r3.2.2.2.2.2.2.2.2.2.2.2.2.2]) (ρ := [0, 2, 1, 3, 4, 5, 6, 7, 8]) (φ := [2, 1, 0, 3, 5, 4, 7, 9, 6, 8]) (ψ := [0, 1, 2, 3, 4, 5, 6]) [some 2, some 1, some 0, some 3, some 5, some 4, some 8, some 6, some 9, some 7] [some 0, some 1, some 2, some 3, some 4, some 5, some 6] zyw_LawReader_readClause zyw_LawReader_read zye_LawReader_read (by decide +kernel) (zt_LawReader_readClause hr3) ⟨⟨_, rfl, fun _ => rfl⟩, ⟨_, rfl, fun _ => rfl⟩, ⟨_, rfl, fun _ => rfl⟩, ⟨_, rfl, fun _ => rfl⟩, ⟨_, rfl, fun _ => rfl⟩, ⟨_, rfl, fun _ => rfl⟩, ⟨_, rfl, fun _ => rfl⟩, ⟨_, rfl, fun _ => rfl⟩, ⟨_, rfl, fun _ => rfl⟩, ⟨_, rfl, fun _ => rfl⟩, trivial⟩ ⟨rfl, rfl, rfl, rfl, rfl, rfl, rfl, trivial⟩ rfl rfl rfl rfl rfl rfl rfl) zd36_36 zxt39 rfl (by decide) (by decide) rfl ?_
  refine zv_con hB zd36_39 rfl ?_
  refine zv_ist hB zd36_40 rfl rfl rfl ?_
  obtain ⟨q9, hq9, h⟩ := zi_bind h
  refine zv_wk hB (L' := [.inr 0, .inr 1000, .inr 1000, .inl 0]) (F' := [.inl r1, .inl r3.2.1, .inl r3.1, .inr 1, .inl r3.2.2.2.1, .inl r3.2.2.1, .inl r3.2.2.2.2.2.2.1, .inl r3.2.2.2.2.1, .inl r3.2.2.2.2.2.2.2.1, .inl r3.2.2.2.2.2.1]) ⟨fun _ => rfl, fun (h : zv_is (.inr 1000)) => (Nat.lt_irrefl 1000 h).elim, fun (h : zv_is (.inr 1000)) => (Nat.lt_irrefl 1000 h).elim, fun _ => rfl, trivial⟩ ⟨fun _ => rfl, fun _ => rfl, fun _ => rfl, fun _ => rfl, fun _ => rfl, fun _ => rfl, fun _ => rfl, fun _ => rfl, fun _ => rfl, fun _ => rfl, trivial⟩ ?_
  refine l0 _ _ _ _ _ _ _ _ _ _ _ _ _ _ _ _ _ q9 hq9 ?_
  show good 81 [.inr 0, .inr 1000, .inr 1000, .inr 1000] [] [.inl r1, .inl q9.1, .inl q9.2.1, .inr 1, .inl q9.2.2.1, .inl q9.2.2.2.1, .inl q9.2.2.2.2.1, .inl q9.2.2.2.2.2.1, .inl q9.2.2.2.2.2.2.1, .inl q9.2.2.2.2.2.2.2.1] [g0, q9.2.2.2.2.2.2.2.2.1, q9.2.2.2.2.2.2.2.2.2.1, q9.2.2.2.2.2.2.2.2.2.2.1, q9.2.2.2.2.2.2.2.2.2.2.2.1, q9.2.2.2.2.2.2.2.2.2.2.2.2.1, q9.2.2.2.2.2.2.2.2.2.2.2.2.2]
  refine zv_ald hB zd36_81 rfl rfl rfl ?_
  refine zv_getf hB zd36_82 rfl rfl (fun _ _ => ?_)
  refine zv_zeq hB zd36_85 rfl (fun hc10 => ?_) (fun hc10 => ?_)
  · rw [if_pos hc10] at h
    refine zv_ald hB zd36_95 rfl rfl rfl ?_
    refine zv_getq hB zd36_96 rfl rfl rfl ?_
    refine zv_getf hB zd36_99 rfl rfl (fun _ _ => ?_)
    have hw := Option.some.inj h
    subst hw
    exact hret _ _ _ _ _ zd36_102 (by trivial) ⟨rfl, rfl, rfl⟩
  · rw [if_neg hc10] at h
    refine zv_ald hB zd36_88 rfl rfl rfl ?_
    refine zv_getf hB zd36_89 rfl rfl (fun _ _ => ?_)
    refine zv_goto hB zd36_92 rfl ?_
    have hw := Option.some.inj h
    subst hw
    exact hret _ _ _ _ _ zd36_102 (by trivial) ⟨rfl, rfl, rfl⟩
/-! X_law (I)I -/
-- names: 0 StarTales('arg', 0), 1 Tape(0, 0, 6), 2 LawReader(0, 0, 9), 3 Law(0, 0, 8), 4 (0, 220)(1, 3, 0), 5 (0, 200)(3, 4, 0), 6 (0, 200)(3, 4, 1), 7 (0, 14)(3, 4, 3), 8 (0, 14)(3, 4, 4), 9 (0, 14)(3, 4, 5), 10 (0, 14)(3, 4, 6), 11 Law(0, 0, 7)
-- fields: f0 = 1.size_, f1 = 0.spareLaw_, f2 = 2.length_, f3 = 2.at_, f4 = 2.fault_, f5 = 2.law_, f6 = 3.steps_, f7 = 3.clauses_, f8 = 3.tellsSeen_, f9 = 3.tellsLines_, f10 = 3.seenByPlace_, f11 = 3.linesByPlace_, f12 = 0.ruling_; arrays: g0 = 4, g1 = 5, g2 = 6, g3 = 7, g4 = 8, g5 = 9, g6 = 10; out: [('ret', None), ('f', 0), ('f', 2), ('f', 3), ('f', 4), ('f', 6), ('f', 7), ('f', 8), ('f', 9), ('f', 10), ('f', 11), ('g', 1), ('g', 2), ('g', 3), ('g', 4), ('g', 5), ('g', 6), ('r', 1), ('r', 12)]
abbrev zy_X_law : zNL := (12, [(0, 0), (1, 3), (2, 5), (3, 4), (11, 4)], [(1, 3, 1, 0), (0, 0, 8, 1), (2, 5, 1, 2), (2, 5, 2, 3), (2, 5, 3, 4), (2, 5, 4, 5), (3, 4, 2, 6), (3, 4, 7, 7), (3, 4, 8, 8), (3, 4, 9, 9), (3, 4, 10, 10), (3, 4, 11, 11), (0, 0, 7, 12)], [(0, 0, 6, 1), (0, 0, 9, 2), (2, 5, 0, 4), (3, 4, 0, 5), (3, 4, 1, 6), (3, 4, 3, 7), (3, 4, 4, 8), (3, 4, 5, 9), (3, 4, 6, 10)], [(4, 0, 220, 0), (5, 0, 200, 1), (6, 0, 200, 2), (7, 0, 14, 3), (8, 0, 14, 4), (9, 0, 14, 5), (10, 0, 14, 6)])
theorem zyw_X_law : zv_wf zy_X_law = true := by decide +kernel
theorem zye_X_law : zv_ek2 zy_X_law = true := by decide +kernel
def zf_X_law (x1 : Int) (f0 : Int) (f2 : Int) (f3 : Int) (f4 : Int) (f6 : Int) (f7 : Int) (f8 : Int) (f9 : Int) (f10 : Int) (f11 : Int) (g0 : (Int → Int)) (g1 : (Int → Int)) (g2 : (Int → Int)) (g3 : (Int → Int)) (g4 : (Int → Int)) (g5 : (Int → Int)) (g6 : (Int → Int)) : Option (Int × Int × Int × Int × Int × Int × Int × Int × Int × Int × Int × (Int → Int) × (Int → Int) × (Int → Int) × (Int → Int) × (Int → Int) × (Int → Int) × Nat × Nat) := (zf_X_isWithin x1 1 200).bind fun r1 => (if r1 = 0 then (some ((-1), f0, f2, f3, f4, f6, f7, f8, f9, f10, f11, g1, g2, g3, g4, g5, g6, 3, 11)) else ((zf_Tape_take x1 f0).bind fun r3 => (if r3.1 = 0 then (some ((-1), r3.2, f2, f3, f4, f6, f7, f8, f9, f10, f11, g1, g2, g3, g4, g5, g6, 3, 11)) else ((zf_LawReader_read x1 f2 f3 f4 f6 f7 f8 f9 f10 f11 g0 g1 g2 g3 g4 g5 g6).bind fun r5 => (if 0 < r5.1 then (some (r5.1, r3.2, r5.2.1, r5.2.2.1, r5.2.2.2.1, r5.2.2.2.2.1, r5.2.2.2.2.2.1, r5.2.2.2.2.2.2.1, r5.2.2.2.2.2.2.2.1, r5.2.2.2.2.2.2.2.2.1, r5.2.2.2.2.2.2.2.2.2.1, r5.2.2.2.2.2.2.2.2.2.2.1, r5.2.2.2.2.2.2.2.2.2.2.2.1, r5.2.2.2.2.2.2.2.2.2.2.2.2.1, r5.2.2.2.2.2.2.2.2.2.2.2.2.2.1, r5.2.2.2.2.2.2.2.2.2.2.2.2.2.2.1, r5.2.2.2.2.2.2.2.2.2.2.2.2.2.2.2, 11, 3)) else (some (r5.1, r3.2, r5.2.1, r5.2.2.1, r5.2.2.2.1, r5.2.2.2.2.1, r5.2.2.2.2.2.1, r5.2.2.2.2.2.2.1, r5.2.2.2.2.2.2.2.1, r5.2.2.2.2.2.2.2.2.1, r5.2.2.2.2.2.2.2.2.2.1, r5.2.2.2.2.2.2.2.2.2.2.1, r5.2.2.2.2.2.2.2.2.2.2.2.1, r5.2.2.2.2.2.2.2.2.2.2.2.2.1, r5.2.2.2.2.2.2.2.2.2.2.2.2.2.1, r5.2.2.2.2.2.2.2.2.2.2.2.2.2.2.1, r5.2.2.2.2.2.2.2.2.2.2.2.2.2.2.2, 3, 11)))))))
theorem zd34_0 : decode zxm34.2.1 0 = .ok (.iload_n 1, 1) := by decide +kernel
theorem zd34_1 : decode zxm34.2.1 1 = .ok (.iconst 1, 1) := by decide +kernel
theorem zd34_2 : decode zxm34.2.1 2 = .ok (.sipush 200, 3) := by decide +kernel
theorem zd34_5 : decode zxm34.2.1 5 = .ok (.invokestatic 126, 3) := by decide +kernel
theorem zd34_8 : decode zxm34.2.1 8 = .ok (.ifCond .eq 14, 3) := by decide +kernel
theorem zd34_11 : decode zxm34.2.1 11 = .ok (.aload_n 0, 1) := by decide +kernel
theorem zd34_12 : decode zxm34.2.1 12 = .ok (.getfield 39, 3) := by decide +kernel
theorem zd34_15 : decode zxm34.2.1 15 = .ok (.iload_n 1, 1) := by decide +kernel
theorem zd34_16 : decode zxm34.2.1 16 = .ok (.invokevirtual 197, 3) := by decide +kernel
theorem zd34_19 : decode zxm34.2.1 19 = .ok (.ifCond .ne 5, 3) := by decide +kernel
theorem zd34_22 : decode zxm34.2.1 22 = .ok (.iconst (-1), 1) := by decide +kernel
theorem zd34_23 : decode zxm34.2.1 23 = .ok (.ireturn, 1) := by decide +kernel
theorem zd34_24 : decode zxm34.2.1 24 = .ok (.aload_n 0, 1) := by decide +kernel
theorem zd34_25 : decode zxm34.2.1 25 = .ok (.getfield 62, 3) := by decide +kernel
theorem zd34_28 : decode zxm34.2.1 28 = .ok (.iload_n 1, 1) := by decide +kernel
theorem zd34_29 : decode zxm34.2.1 29 = .ok (.aload_n 0, 1) := by decide +kernel
theorem zd34_30 : decode zxm34.2.1 30 = .ok (.getfield 50, 3) := by decide +kernel
theorem zd34_33 : decode zxm34.2.1 33 = .ok (.invokevirtual 200, 3) := by decide +kernel
theorem zd34_36 : decode zxm34.2.1 36 = .ok (.istore_n 2, 1) := by decide +kernel
theorem zd34_37 : decode zxm34.2.1 37 = .ok (.iload_n 2, 1) := by decide +kernel
theorem zd34_38 : decode zxm34.2.1 38 = .ok (.ifCond .le 21, 3) := by decide +kernel
theorem zd34_41 : decode zxm34.2.1 41 = .ok (.aload_n 0, 1) := by decide +kernel
theorem zd34_42 : decode zxm34.2.1 42 = .ok (.getfield 46, 3) := by decide +kernel
theorem zd34_45 : decode zxm34.2.1 45 = .ok (.astore_n 3, 1) := by decide +kernel
theorem zd34_46 : decode zxm34.2.1 46 = .ok (.aload_n 0, 1) := by decide +kernel
theorem zd34_47 : decode zxm34.2.1 47 = .ok (.aload_n 0, 1) := by decide +kernel
theorem zd34_48 : decode zxm34.2.1 48 = .ok (.getfield 50, 3) := by decide +kernel
theorem zd34_51 : decode zxm34.2.1 51 = .ok (.putfield 46, 3) := by decide +kernel
theorem zd34_54 : decode zxm34.2.1 54 = .ok (.aload_n 0, 1) := by decide +kernel
theorem zd34_55 : decode zxm34.2.1 55 = .ok (.aload_n 3, 1) := by decide +kernel
theorem zd34_56 : decode zxm34.2.1 56 = .ok (.putfield 50, 3) := by decide +kernel
theorem zd34_59 : decode zxm34.2.1 59 = .ok (.iload_n 2, 1) := by decide +kernel
theorem zd34_60 : decode zxm34.2.1 60 = .ok (.ireturn, 1) := by decide +kernel
theorem zt_X_law {x1 : Int} {f0 : Int} {f2 : Int} {f3 : Int} {f4 : Int} {f6 : Int} {f7 : Int} {f8 : Int} {f9 : Int} {f10 : Int} {f11 : Int} {g0 : (Int → Int)} {g1 : (Int → Int)} {g2 : (Int → Int)} {g3 : (Int → Int)} {g4 : (Int → Int)} {g5 : (Int → Int)} {g6 : (Int → Int)} {o : Int × Int × Int × Int × Int × Int × Int × Int × Int × Int × Int × (Int → Int) × (Int → Int) × (Int → Int) × (Int → Int) × (Int → Int) × (Int → Int) × Nat × Nat} (h : zf_X_law x1 f0 f2 f3 f4 f6 f7 f8 f9 f10 f11 g0 g1 g2 g3 g4 g5 g6 = some o) : zv_Fn z_TB z_cl z_KX zy_X_law zxm34 (81, 4860) [.inr 0, .inl x1] [.inl f0, .inr 3, .inl f2, .inl f3, .inl f4, .inr 1000, .inl f6, .inl f7, .inl f8, .inl f9, .inl f10, .inl f11, .inr 11] [g0, g1, g2, g3, g4, g5, g6] (some o.1) [.inl o.2.1, .inr o.2.2.2.2.2.2.2.2.2.2.2.2.2.2.2.2.2.1, .inl o.2.2.1, .inl o.2.2.2.1, .inl o.2.2.2.2.1, .inr 1000, .inl o.2.2.2.2.2.1, .inl o.2.2.2.2.2.2.1, .inl o.2.2.2.2.2.2.2.1, .inl o.2.2.2.2.2.2.2.2.1, .inl o.2.2.2.2.2.2.2.2.2.1, .inl o.2.2.2.2.2.2.2.2.2.2.1, .inr o.2.2.2.2.2.2.2.2.2.2.2.2.2.2.2.2.2.2] [g0, o.2.2.2.2.2.2.2.2.2.2.2.1, o.2.2.2.2.2.2.2.2.2.2.2.2.1, o.2.2.2.2.2.2.2.2.2.2.2.2.2.1, o.2.2.2.2.2.2.2.2.2.2.2.2.2.2.1, o.2.2.2.2.2.2.2.2.2.2.2.2.2.2.2.1, o.2.2.2.2.2.2.2.2.2.2.2.2.2.2.2.2.1] := zv_meth (K := (z_KF0, z_KC0, z_KL0, z_KT0, [], [], [], none)) (FT := z_FT) (MT := z_MT) (n := 2) zxp34 (z_ks0 _ (fun _ h => List.mem_cons_of_mem _ h) _ _ _ _ (fun j r h _ => by cases h)) (fun _ _ => zs_KX_p) zyw_X_law (fun va F G h => by obtain ⟨rfl, _⟩ := h; rfl) (fun va F G h => by obtain ⟨rfl, _⟩ := h; rfl) rfl fun good va F G hB hret hvret hP => by
  obtain ⟨rfl, rfl, rfl⟩ := hP
  unfold zf_X_law at h
  refine zv_ild hB zd34_0 rfl rfl ?_
  refine zv_con hB zd34_1 rfl ?_
  refine zv_con hB zd34_2 rfl ?_
  obtain ⟨r1, hr1, h⟩ := zi_bind h
  refine zv_cs hB (zv_emq (va2 := [.inl x1, .inl 1, .inl 200]) (F := [.inl f0, .inr 3, .inl f2, .inl f3, .inl f4, .inr 1000, .inl f6, .inl f7, .inl f8, .inl f9, .inl f10, .inl f11, .inr 11]) (F' := [.inl f0, .inr 3, .inl f2, .inl f3, .inl f4, .inr 1000, .inl f6, .inl f7, .inl f8, .inl f9, .inl f10, .inl f11, .inr 11]) (G := [g0, g1, g2, g3, g4, g5, g6]) (G' := [g0, g1, g2, g3, g4, g5, g6]) (ρ := []) (φ := []) (ψ := []) [none, none, none, none, none, none, none, none, none, none, none, none, none] [none, none, none, none, none, none, none] zyw_X_isWithin zyw_X_law zye_X_law (by decide +kernel) (zt_X_isWithin hr1) trivial trivial rfl rfl rfl rfl rfl rfl rfl) zd34_5 zxt15 rfl (by decide) (by decide) rfl ?_
  refine zv_zeq hB zd34_8 rfl (fun hc2 => ?_) (fun hc2 => ?_)
  · rw [if_pos hc2] at h
    refine zv_con hB zd34_22 rfl ?_
    have hw := Option.some.inj h
    subst hw
    exact hret _ _ _ _ _ zd34_23 (by trivial) ⟨rfl, rfl, rfl⟩
  · rw [if_neg hc2] at h
    refine zv_ald hB zd34_11 rfl rfl rfl ?_
    refine zv_getr hB zd34_12 rfl ?_
    refine zv_ild hB zd34_15 rfl rfl ?_
    obtain ⟨r3, hr3, h⟩ := zi_bind h
    refine zv_cv hB (zv_emq (va2 := [.inr 1, .inl x1]) (F := [.inl f0, .inr 3, .inl f2, .inl f3, .inl f4, .inr 1000, .inl f6, .inl f7, .inl f8, .inl f9, .inl f10, .inl f11, .inr 11]) (F' := [.inl r3.2, .inr 3, .inl f2, .inl f3, .inl f4, .inr 1000, .inl f6, .inl f7, .inl f8, .inl f9, .inl f10, .inl f11, .inr 11]) (G := [g0, g1, g2, g3, g4, g5, g6]) (G' := [g0, g1, g2, g3, g4, g5, g6]) (ρ := [1]) (φ := [0]) (ψ := []) [some 0, none, none, none, none, none, none, none, none, none, none, none, none] [none, none, none, none, none, none, none] zyw_Tape_take zyw_X_law zye_X_law (by decide +kernel) (zt_Tape_take hr3) ⟨⟨_, rfl, fun _ => rfl⟩, trivial⟩ trivial rfl rfl rfl rfl rfl rfl rfl) zd34_16 zxt35 rfl (by decide) (by decide) rfl ?_
    refine zv_zne hB zd34_19 rfl (fun hc4 => ?_) (fun hc4 => ?_)
    · rw [if_neg hc4] at h
      refine zv_ald hB zd34_24 rfl rfl rfl ?_
      refine zv_getr hB zd34_25 rfl ?_
      refine zv_ild hB zd34_28 rfl rfl ?_
      refine zv_ald hB zd34_29 rfl rfl rfl ?_
      refine zv_getq hB zd34_30 rfl rfl rfl ?_
      obtain ⟨r5, hr5, h⟩ := zi_bind h
      refine zv_cv hB (zv_emq (va2 := [.inr 2, .inl x1, .inr 3]) (F := [.inl r3.2, .inr 3, .inl f2, .inl f3, .inl f4, .inr 1000, .inl f6, .inl f7, .inl f8, .inl f9, .inl f10, .inl f11, .inr 11]) (F' := [.inl r3.2, .inr 3, .inl r5.2.1, .inl r5.2.2.1, .inl r5.2.2.2.1, .inr 3, .inl r5.2.2.2.2.1, .inl r5.2.2.2.2.2.1, .inl r5.2.2.2.2.2.2.1, .inl r5.2.2.2.2.2.2.2.1, .inl r5.2.2.2.2.2.2.2.2.1, .inl r5.2.2.2.2.2.2.2.2.2.1, .inr 11]) (G := [g0, g1, g2, g3, g4, g5, g6]) (G' := [g0, r5.2.2.2.2.2.2.2.2.2.2.1, r5.2.2.2.2.2.2.2.2.2.2.2.1, r5.2.2.2.2.2.2.2.2.2.2.2.2.1, r5.2.2.2.2.2.2.2.2.2.2.2.2.2.1, r5.2.2.2.2.2.2.2.2.2.2.2.2.2.2.1, r5.2.2.2.2.2.2.2.2.2.2.2.2.2.2.2]) (ρ := [2, 3, 4, 5, 6, 7, 8, 9, 10]) (φ := [2, 3, 4, 5, 6, 7, 8, 9, 10, 11]) (ψ := [0, 1, 2, 3, 4, 5, 6]) [none, none, some 0, some 1, some 2, some 3, some 4, some 5, some 6, some 7, some 8, some 9, none] [some 0, some 1, some 2, some 3, some 4, some 5, some 6] zyw_LawReader_read zyw_X_law zye_X_law (by decide +kernel) (zt_LawReader_read hr5) ⟨⟨_, rfl, fun _ => rfl⟩, ⟨_, rfl, fun _ => rfl⟩, ⟨_, rfl, fun _ => rfl⟩, ⟨_, rfl, fun (h : zv_is (.inr 1000)) => (Nat.lt_irrefl 1000 h).elim⟩, ⟨_, rfl, fun _ => rfl⟩, ⟨_, rfl, fun _ => rfl⟩, ⟨_, rfl, fun _ => rfl⟩, ⟨_, rfl, fun _ => rfl⟩, ⟨_, rfl, fun _ => rfl⟩, ⟨_, rfl, fun _ => rfl⟩, trivial⟩ ⟨rfl, rfl, rfl, rfl, rfl, rfl, rfl, trivial⟩ rfl rfl rfl rfl rfl rfl rfl) zd34_33 zxt36 rfl (by decide) (by decide) rfl ?_
      refine zv_ist hB zd34_36 rfl rfl rfl ?_
      refine zv_ild hB zd34_37 rfl rfl ?_
      refine zv_zle hB zd34_38 rfl (fun hc6 => ?_) (fun hc6 => ?_)
      · rw [if_neg (Int.not_lt.mpr hc6)] at h
        refine zv_ild hB zd34_59 rfl rfl ?_
        have hw := Option.some.inj h
        refine zv_wk hB (L' := [.inr 0, .inl x1, .inl r5.1, .inr 1000]) (F' := [.inl r3.2, .inr 3, .inl r5.2.1, .inl r5.2.2.1, .inl r5.2.2.2.1, .inr 1000, .inl r5.2.2.2.2.1, .inl r5.2.2.2.2.2.1, .inl r5.2.2.2.2.2.2.1, .inl r5.2.2.2.2.2.2.2.1, .inl r5.2.2.2.2.2.2.2.2.1, .inl r5.2.2.2.2.2.2.2.2.2.1, .inr 11]) ⟨fun _ => rfl, fun _ => rfl, fun _ => rfl, fun _ => rfl, trivial⟩ ⟨fun _ => rfl, fun _ => rfl, fun _ => rfl, fun _ => rfl, fun _ => rfl, fun (h : zv_is (.inr 1000)) => (Nat.lt_irrefl 1000 h).elim, fun _ => rfl, fun _ => rfl, fun _ => rfl, fun _ => rfl, fun _ => rfl, fun _ => rfl, fun _ => rfl, trivial⟩ ?_
        subst hw
        exact hret _ _ _ _ _ zd34_60 (by trivial) ⟨rfl, rfl, rfl⟩
      · rw [if_pos hc6] at h
        refine zv_ald hB zd34_41 rfl rfl rfl ?_
        refine zv_getq hB zd34_42 rfl rfl rfl ?_
        refine zv_ast hB zd34_45 rfl rfl rfl rfl ?_
        refine zv_ald hB zd34_46 rfl rfl rfl ?_
        refine zv_ald hB zd34_47 rfl rfl rfl ?_
        refine zv_getq hB zd34_48 rfl rfl rfl ?_
        refine zv_putq hB zd34_51 rfl rfl (by decide) rfl ?_
        refine zv_ald hB zd34_54 rfl rfl rfl ?_
        refine zv_ald hB zd34_55 rfl rfl rfl ?_
        refine zv_putq hB zd34_56 rfl rfl (by decide) rfl ?_
        refine zv_ild hB zd34_59 rfl rfl ?_
        have hw := Option.some.inj h
        refine zv_wk hB (L' := [.inr 0, .inl x1, .inl r5.1, .inr 11]) (F' := [.inl r3.2, .inr 11, .inl r5.2.1, .inl r5.2.2.1, .inl r5.2.2.2.1, .inr 1000, .inl r5.2.2.2.2.1, .inl r5.2.2.2.2.2.1, .inl r5.2.2.2.2.2.2.1, .inl r5.2.2.2.2.2.2.2.1, .inl r5.2.2.2.2.2.2.2.2.1, .inl r5.2.2.2.2.2.2.2.2.2.1, .inr 3]) ⟨fun _ => rfl, fun _ => rfl, fun _ => rfl, fun _ => rfl, trivial⟩ ⟨fun _ => rfl, fun _ => rfl, fun _ => rfl, fun _ => rfl, fun _ => rfl, fun (h : zv_is (.inr 1000)) => (Nat.lt_irrefl 1000 h).elim, fun _ => rfl, fun _ => rfl, fun _ => rfl, fun _ => rfl, fun _ => rfl, fun _ => rfl, fun _ => rfl, trivial⟩ ?_
        subst hw
        exact hret _ _ _ _ _ zd34_60 (by trivial) ⟨rfl, rfl, rfl⟩
    · rw [if_pos hc4] at h
      refine zv_con hB zd34_22 rfl ?_
      have hw := Option.some.inj h
      subst hw
      exact hret _ _ _ _ _ zd34_23 (by trivial) ⟨rfl, rfl, rfl⟩
/-! Arrays_fill_8 ([II)V -/
-- names: 0 (0, 8)('arg', 0)
-- fields: ; arrays: g0 = 0; out: [('g', 0)]
abbrev zy_Arrays_fill_8 : zNL := (1, [], [], [], [(0, 0, 8, 0)])
theorem zyw_Arrays_fill_8 : zv_wf zy_Arrays_fill_8 = true := by decide +kernel
theorem zye_Arrays_fill_8 : zv_ek2 zy_Arrays_fill_8 = true := by decide +kernel
def zf_Arrays_fill_8_l0_b (x1 : Int) (x3 : Int) (rec : Int → (Int → Int) → Option ((Int → Int))) (x2 : Int) (g0 : (Int → Int)) : Option ((Int → Int)) := if x2 < x3 then (cond (zi_ix x2 8) (rec (zi_w (x2 + 1)) (zv_up g0 x2 x1)) none) else (some g0)
def zf_Arrays_fill_8_l0 (x1 : Int) (x3 : Int) : Nat → Int → (Int → Int) → Option ((Int → Int))
  | 0, _, _ => none
  | n + 1, x2, g0 => zf_Arrays_fill_8_l0_b x1 x3 (zf_Arrays_fill_8_l0 x1 x3 n) x2 g0
def zf_Arrays_fill_8 (x1 : Int) (g0 : (Int → Int)) : Option ((Int → Int)) := (zf_Arrays_fill_8_l0 x1 8 zi_fu 0 g0).bind fun q3 => (some q3)
theorem zd78_0 : decode zxm78.2.1 0 = .ok (.iconst 0, 1) := by decide +kernel
theorem zd78_1 : decode zxm78.2.1 1 = .ok (.istore_n 2, 1) := by decide +kernel
theorem zd78_2 : decode zxm78.2.1 2 = .ok (.aload_n 0, 1) := by decide +kernel
theorem zd78_3 : decode zxm78.2.1 3 = .ok (.arraylength, 1) := by decide +kernel
theorem zd78_4 : decode zxm78.2.1 4 = .ok (.istore_n 3, 1) := by decide +kernel
theorem zd78_5 : decode zxm78.2.1 5 = .ok (.iload_n 2, 1) := by decide +kernel
theorem zd78_6 : decode zxm78.2.1 6 = .ok (.iload_n 3, 1) := by decide +kernel
theorem zd78_7 : decode zxm78.2.1 7 = .ok (.if_icmp .ge 13, 3) := by decide +kernel
theorem zd78_10 : decode zxm78.2.1 10 = .ok (.aload_n 0, 1) := by decide +kernel
theorem zd78_11 : decode zxm78.2.1 11 = .ok (.iload_n 2, 1) := by decide +kernel
theorem zd78_12 : decode zxm78.2.1 12 = .ok (.iload_n 1, 1) := by decide +kernel
theorem zd78_13 : decode zxm78.2.1 13 = .ok (.iastore, 1) := by decide +kernel
theorem zd78_14 : decode zxm78.2.1 14 = .ok (.iinc 2 1, 3) := by decide +kernel
theorem zd78_17 : decode zxm78.2.1 17 = .ok (.goto (-12), 3) := by decide +kernel
theorem zd78_20 : decode zxm78.2.1 20 = .ok (.return_, 1) := by decide +kernel
theorem zt_Arrays_fill_8 {x1 : Int} {g0 : (Int → Int)} {o : (Int → Int)} (h : zf_Arrays_fill_8 x1 g0 = some o) : zv_Fn z_TB z_cl z_KX zy_Arrays_fill_8 zxm78 (0, 0) [.inr 0, .inl x1] [] [g0] none [] [o] := zv_meth (K := (z_KF20, z_KC20, z_KL20, z_KT20, [], [], [], none)) (FT := z_FT) (MT := z_MT) (n := 2) zxp78 (z_ks20 _ (fun _ h => List.mem_cons_of_mem _ h) _ _ _ _ (fun j r h _ => by cases h)) (fun _ _ => zs_KX_p) zyw_Arrays_fill_8 (fun va F G h => by obtain ⟨rfl, _⟩ := h; rfl) (fun va F G h => by obtain ⟨rfl, _⟩ := h; rfl) rfl fun good va F G hB hret hvret hP => by
  obtain ⟨rfl, rfl, rfl⟩ := hP
  have l0 : ∀ (n : Nat) (x1 : Int) (x2 : Int) (x3 : Int) (g0 : (Int → Int)) (q : (Int → Int)), zf_Arrays_fill_8_l0 x1 x3 n x2 g0 = some q → (good 20 [.inr 1000, .inr 1000, .inr 1000, .inr 1000] [] [] [q]) → good 5 [.inr 0, .inl x1, .inl x2, .inl x3] [] [] [g0] := by
    intro n
    induction n with
    | zero => intro x1 x2 x3 g0 q h; exact absurd (show none = some q from h) (fun h => by cases h)
    | succ n ih =>
      intro x1 x2 x3 g0 q h hK
      replace h : zf_Arrays_fill_8_l0_b x1 x3 (zf_Arrays_fill_8_l0 x1 x3 n) x2 g0 = some q := h
      unfold zf_Arrays_fill_8_l0_b at h
      refine zv_ild hB zd78_5 rfl rfl ?_
      refine zv_ild hB zd78_6 rfl rfl ?_
      refine zv_cge hB zd78_7 rfl (fun hc1 => ?_) (fun hc1 => ?_)
      · rw [if_neg (Int.not_lt.mpr hc1)] at h
        have hq := Option.some.inj h
        subst hq
        refine zv_wk hB (L' := [.inr 1000, .inr 1000, .inr 1000, .inr 1000]) (F' := []) ⟨fun (h : zv_is (.inr 1000)) => (Nat.lt_irrefl 1000 h).elim, fun (h : zv_is (.inr 1000)) => (Nat.lt_irrefl 1000 h).elim, fun (h : zv_is (.inr 1000)) => (Nat.lt_irrefl 1000 h).elim, fun (h : zv_is (.inr 1000)) => (Nat.lt_irrefl 1000 h).elim, trivial⟩ trivial ?_
        exact hK
      · rw [if_pos hc1] at h
        refine zv_ald hB zd78_10 rfl rfl rfl ?_
        refine zv_ild hB zd78_11 rfl rfl ?_
        refine zv_ild hB zd78_12 rfl rfl ?_
        obtain ⟨c2, h⟩ := zi_if h
        refine zv_iast hB zd78_13 rfl rfl (zi_ix_ok c2).1 (zi_ix_ok c2).2 ?_
        refine zv_iincw hB zd78_14 rfl rfl ?_
        refine zv_goto hB zd78_17 rfl ?_
        exact ih _ _ _ _ q h hK
  unfold zf_Arrays_fill_8 at h
  refine zv_con hB zd78_0 rfl ?_
  refine zv_ist hB zd78_1 rfl rfl rfl ?_
  refine zv_ald hB zd78_2 rfl rfl rfl ?_
  refine zv_alen (v := 8) hB zd78_3 rfl rfl rfl rfl ?_
  refine zv_ist hB zd78_4 rfl rfl rfl ?_
  obtain ⟨q3, hq3, h⟩ := zi_bind h
  refine l0 _ _ _ _ _ q3 hq3 ?_
  show good 20 [.inr 1000, .inr 1000, .inr 1000, .inr 1000] [] [] [q3]
  have hw := Option.some.inj h
  subst hw
  exact hvret _ _ _ _ zd78_20 trivial ⟨rfl, rfl, rfl⟩
/-! Tale_nameAt_220 ([III)I -/
-- names: 0 (0, 220)('arg', 0)
-- fields: ; arrays: g0 = 0; out: [('ret', None)]
abbrev zy_Tale_nameAt_220 : zNL := (1, [], [], [], [(0, 0, 220, 0)])
theorem zyw_Tale_nameAt_220 : zv_wf zy_Tale_nameAt_220 = true := by decide +kernel
theorem zye_Tale_nameAt_220 : zv_ek2 zy_Tale_nameAt_220 = true := by decide +kernel
def zf_Tale_nameAt_220 (x1 : Int) (x2 : Int) (g0 : (Int → Int)) : Option (Int) := if x2 < 0 then (some (-1)) else (if x2 < x1 then (if x2 < 220 then (cond (zi_ix x2 220) (if (g0 x2) < 65 then (some (-1)) else (if 72 < (g0 x2) then (some (-1)) else (some (zi_w ((g0 x2) - 65))))) none) else (some (-1))) else (some (-1)))
theorem zd79_0 : decode zxm79.2.1 0 = .ok (.iload_n 2, 1) := by decide +kernel
theorem zd79_1 : decode zxm79.2.1 1 = .ok (.ifCond .lt 34, 3) := by decide +kernel
theorem zd79_4 : decode zxm79.2.1 4 = .ok (.iload_n 2, 1) := by decide +kernel
theorem zd79_5 : decode zxm79.2.1 5 = .ok (.iload_n 1, 1) := by decide +kernel
theorem zd79_6 : decode zxm79.2.1 6 = .ok (.if_icmp .ge 29, 3) := by decide +kernel
theorem zd79_9 : decode zxm79.2.1 9 = .ok (.iload_n 2, 1) := by decide +kernel
theorem zd79_10 : decode zxm79.2.1 10 = .ok (.aload_n 0, 1) := by decide +kernel
theorem zd79_11 : decode zxm79.2.1 11 = .ok (.arraylength, 1) := by decide +kernel
theorem zd79_12 : decode zxm79.2.1 12 = .ok (.if_icmp .ge 23, 3) := by decide +kernel
theorem zd79_15 : decode zxm79.2.1 15 = .ok (.aload_n 0, 1) := by decide +kernel
theorem zd79_16 : decode zxm79.2.1 16 = .ok (.iload_n 2, 1) := by decide +kernel
theorem zd79_17 : decode zxm79.2.1 17 = .ok (.iaload, 1) := by decide +kernel
theorem zd79_18 : decode zxm79.2.1 18 = .ok (.bipush 65, 2) := by decide +kernel
theorem zd79_20 : decode zxm79.2.1 20 = .ok (.if_icmp .lt 15, 3) := by decide +kernel
theorem zd79_23 : decode zxm79.2.1 23 = .ok (.aload_n 0, 1) := by decide +kernel
theorem zd79_24 : decode zxm79.2.1 24 = .ok (.iload_n 2, 1) := by decide +kernel
theorem zd79_25 : decode zxm79.2.1 25 = .ok (.iaload, 1) := by decide +kernel
theorem zd79_26 : decode zxm79.2.1 26 = .ok (.bipush 72, 2) := by decide +kernel
theorem zd79_28 : decode zxm79.2.1 28 = .ok (.if_icmp .gt 7, 3) := by decide +kernel
theorem zd79_31 : decode zxm79.2.1 31 = .ok (.iconst 1, 1) := by decide +kernel
theorem zd79_32 : decode zxm79.2.1 32 = .ok (.goto 4, 3) := by decide +kernel
theorem zd79_35 : decode zxm79.2.1 35 = .ok (.iconst 0, 1) := by decide +kernel
theorem zd79_36 : decode zxm79.2.1 36 = .ok (.istore_n 3, 1) := by decide +kernel
theorem zd79_37 : decode zxm79.2.1 37 = .ok (.iload_n 3, 1) := by decide +kernel
theorem zd79_38 : decode zxm79.2.1 38 = .ok (.ifCond .eq 12, 3) := by decide +kernel
theorem zd79_41 : decode zxm79.2.1 41 = .ok (.aload_n 0, 1) := by decide +kernel
theorem zd79_42 : decode zxm79.2.1 42 = .ok (.iload_n 2, 1) := by decide +kernel
theorem zd79_43 : decode zxm79.2.1 43 = .ok (.iaload, 1) := by decide +kernel
theorem zd79_44 : decode zxm79.2.1 44 = .ok (.bipush 65, 2) := by decide +kernel
theorem zd79_46 : decode zxm79.2.1 46 = .ok (.isub, 1) := by decide +kernel
theorem zd79_47 : decode zxm79.2.1 47 = .ok (.goto 4, 3) := by decide +kernel
theorem zd79_50 : decode zxm79.2.1 50 = .ok (.iconst (-1), 1) := by decide +kernel
theorem zd79_51 : decode zxm79.2.1 51 = .ok (.ireturn, 1) := by decide +kernel
theorem zt_Tale_nameAt_220 {x1 : Int} {x2 : Int} {g0 : (Int → Int)} {o : Int} (h : zf_Tale_nameAt_220 x1 x2 g0 = some o) : zv_Fn z_TB z_cl z_KX zy_Tale_nameAt_220 zxm79 (0, 0) [.inr 0, .inl x1, .inl x2] [] [g0] (some o) [] [g0] := zv_meth (K := (z_KF9, z_KC9, z_KL9, z_KT9, [], [], [], none)) (FT := z_FT) (MT := z_MT) (n := 3) zxp79 (z_ks9 _ (fun _ h => List.mem_cons_of_mem _ h) _ _ _ _ (fun j r h _ => by cases h)) (fun _ _ => zs_KX_p) zyw_Tale_nameAt_220 (fun va F G h => by obtain ⟨rfl, _⟩ := h; rfl) (fun va F G h => by obtain ⟨rfl, _⟩ := h; rfl) rfl fun good va F G hB hret hvret hP => by
  obtain ⟨rfl, rfl, rfl⟩ := hP
  unfold zf_Tale_nameAt_220 at h
  refine zv_ild hB zd79_0 rfl rfl ?_
  refine zv_zlt hB zd79_1 rfl (fun hc1 => ?_) (fun hc1 => ?_)
  · rw [if_pos hc1] at h
    refine zv_con hB zd79_35 rfl ?_
    refine zv_ist hB zd79_36 rfl rfl rfl ?_
    refine zv_ild hB zd79_37 rfl rfl ?_
    refine zv_zeq hB zd79_38 rfl (fun _ => ?_) (fun hc => absurd hc (by decide))
    refine zv_con hB zd79_50 rfl ?_
    have hw := Option.some.inj h
    subst hw
    exact hret _ _ _ _ _ zd79_51 (by trivial) ⟨rfl, rfl, rfl⟩
  · rw [if_neg (Int.not_lt.mpr hc1)] at h
    refine zv_ild hB zd79_4 rfl rfl ?_
    refine zv_ild hB zd79_5 rfl rfl ?_
    refine zv_cge hB zd79_6 rfl (fun hc3 => ?_) (fun hc3 => ?_)
    · rw [if_neg (Int.not_lt.mpr hc3)] at h
      refine zv_con hB zd79_35 rfl ?_
      refine zv_ist hB zd79_36 rfl rfl rfl ?_
      refine zv_ild hB zd79_37 rfl rfl ?_
      refine zv_zeq hB zd79_38 rfl (fun _ => ?_) (fun hc => absurd hc (by decide))
      refine zv_con hB zd79_50 rfl ?_
      have hw := Option.some.inj h
      subst hw
      exact hret _ _ _ _ _ zd79_51 (by trivial) ⟨rfl, rfl, rfl⟩
    · rw [if_pos hc3] at h
      refine zv_ild hB zd79_9 rfl rfl ?_
      refine zv_ald hB zd79_10 rfl rfl rfl ?_
      refine zv_alen (v := 220) hB zd79_11 rfl rfl rfl rfl ?_
      refine zv_cge hB zd79_12 rfl (fun hc5 => ?_) (fun hc5 => ?_)
      · rw [if_neg (Int.not_lt.mpr hc5)] at h
        refine zv_con hB zd79_35 rfl ?_
        refine zv_ist hB zd79_36 rfl rfl rfl ?_
        refine zv_ild hB zd79_37 rfl rfl ?_
        refine zv_zeq hB zd79_38 rfl (fun _ => ?_) (fun hc => absurd hc (by decide))
        refine zv_con hB zd79_50 rfl ?_
        have hw := Option.some.inj h
        subst hw
        exact hret _ _ _ _ _ zd79_51 (by trivial) ⟨rfl, rfl, rfl⟩
      · rw [if_pos hc5] at h
        refine zv_ald hB zd79_15 rfl rfl rfl ?_
        refine zv_ild hB zd79_16 rfl rfl ?_
        obtain ⟨c7, h⟩ := zi_if h
        refine zv_iald hB zd79_17 rfl rfl (zi_ix_ok c7).1 (zi_ix_ok c7).2 (fun _ _ => ?_)
        refine zv_con hB zd79_18 rfl ?_
        refine zv_clt hB zd79_20 rfl (fun hc8 => ?_) (fun hc8 => ?_)
        · rw [if_pos hc8] at h
          refine zv_con hB zd79_35 rfl ?_
          refine zv_ist hB zd79_36 rfl rfl rfl ?_
          refine zv_ild hB zd79_37 rfl rfl ?_
          refine zv_zeq hB zd79_38 rfl (fun _ => ?_) (fun hc => absurd hc (by decide))
          refine zv_con hB zd79_50 rfl ?_
          have hw := Option.some.inj h
          subst hw
          exact hret _ _ _ _ _ zd79_51 (by trivial) ⟨rfl, rfl, rfl⟩
        · rw [if_neg (Int.not_lt.mpr hc8)] at h
          refine zv_ald hB zd79_23 rfl rfl rfl ?_
          refine zv_ild hB zd79_24 rfl rfl ?_
          refine zv_iald hB zd79_25 rfl rfl (zi_ix_ok c7).1 (zi_ix_ok c7).2 (fun _ _ => ?_)
          refine zv_con hB zd79_26 rfl ?_
          refine zv_cgt hB zd79_28 rfl (fun hc10 => ?_) (fun hc10 => ?_)
          · rw [if_pos hc10] at h
            refine zv_con hB zd79_35 rfl ?_
            refine zv_ist hB zd79_36 rfl rfl rfl ?_
            refine zv_ild hB zd79_37 rfl rfl ?_
            refine zv_zeq hB zd79_38 rfl (fun _ => ?_) (fun hc => absurd hc (by decide))
            refine zv_con hB zd79_50 rfl ?_
            have hw := Option.some.inj h
            subst hw
            exact hret _ _ _ _ _ zd79_51 (by trivial) ⟨rfl, rfl, rfl⟩
          · rw [if_neg (Int.not_lt.mpr hc10)] at h
            refine zv_con hB zd79_31 rfl ?_
            refine zv_goto hB zd79_32 rfl ?_
            refine zv_ist hB zd79_36 rfl rfl rfl ?_
            refine zv_ild hB zd79_37 rfl rfl ?_
            refine zv_zeq hB zd79_38 rfl (fun hc => absurd hc (by decide)) (fun _ => ?_)
            refine zv_ald hB zd79_41 rfl rfl rfl ?_
            refine zv_ild hB zd79_42 rfl rfl ?_
            refine zv_iald hB zd79_43 rfl rfl (zi_ix_ok c7).1 (zi_ix_ok c7).2 (fun _ _ => ?_)
            refine zv_con hB zd79_44 rfl ?_
            refine zv_subw hB zd79_46 ?_
            refine zv_goto hB zd79_47 rfl ?_
            have hw := Option.some.inj h
            subst hw
            exact hret _ _ _ _ _ zd79_51 (by trivial) ⟨rfl, rfl, rfl⟩
/-! Tale_addLine (II)V -/
-- names: 0 Tale('arg', 0), 1 (0, 8)(0, 6, 2)
-- fields: f0 = 0.names_, f1 = 0.lines_; arrays: g0 = 1; out: [('f', 0), ('f', 1), ('g', 0)]
abbrev zy_Tale_addLine : zNL := (2, [(0, 6)], [(0, 6, 1, 0), (0, 6, 0, 1)], [(0, 6, 2, 1)], [(1, 0, 8, 0)])
theorem zyw_Tale_addLine : zv_wf zy_Tale_addLine = true := by decide +kernel
theorem zye_Tale_addLine : zv_ek2 zy_Tale_addLine = true := by decide +kernel
def zf_Tale_addLine (x1 : Int) (x2 : Int) (f0 : Int) (f1 : Int) (g0 : (Int → Int)) : Option (Int × Int × (Int → Int)) := cond (zi_ix x1 8) (cond (zi_ix x2 8) (some ((zi_or f0 (zi_or (zi_shl 1 x1) (zi_shl 1 x2))), (zi_w (f1 + 1)), (zv_up (zv_up g0 x1 (zi_or (g0 x1) (zi_shl 1 x2))) x2 (zi_or ((zv_up g0 x1 (zi_or (g0 x1) (zi_shl 1 x2))) x2) (zi_shl 1 x1))))) none) none
theorem zd80_0 : decode zxm80.2.1 0 = .ok (.aload_n 0, 1) := by decide +kernel
theorem zd80_1 : decode zxm80.2.1 1 = .ok (.getfield 18, 3) := by decide +kernel
theorem zd80_4 : decode zxm80.2.1 4 = .ok (.iload_n 1, 1) := by decide +kernel
theorem zd80_5 : decode zxm80.2.1 5 = .ok (.dup2, 1) := by decide +kernel
theorem zd80_6 : decode zxm80.2.1 6 = .ok (.iaload, 1) := by decide +kernel
theorem zd80_7 : decode zxm80.2.1 7 = .ok (.iconst 1, 1) := by decide +kernel
theorem zd80_8 : decode zxm80.2.1 8 = .ok (.iload_n 2, 1) := by decide +kernel
theorem zd80_9 : decode zxm80.2.1 9 = .ok (.ishl, 1) := by decide +kernel
theorem zd80_10 : decode zxm80.2.1 10 = .ok (.ior, 1) := by decide +kernel
theorem zd80_11 : decode zxm80.2.1 11 = .ok (.iastore, 1) := by decide +kernel
theorem zd80_12 : decode zxm80.2.1 12 = .ok (.aload_n 0, 1) := by decide +kernel
theorem zd80_13 : decode zxm80.2.1 13 = .ok (.getfield 18, 3) := by decide +kernel
theorem zd80_16 : decode zxm80.2.1 16 = .ok (.iload_n 2, 1) := by decide +kernel
theorem zd80_17 : decode zxm80.2.1 17 = .ok (.dup2, 1) := by decide +kernel
theorem zd80_18 : decode zxm80.2.1 18 = .ok (.iaload, 1) := by decide +kernel
theorem zd80_19 : decode zxm80.2.1 19 = .ok (.iconst 1, 1) := by decide +kernel
theorem zd80_20 : decode zxm80.2.1 20 = .ok (.iload_n 1, 1) := by decide +kernel
theorem zd80_21 : decode zxm80.2.1 21 = .ok (.ishl, 1) := by decide +kernel
theorem zd80_22 : decode zxm80.2.1 22 = .ok (.ior, 1) := by decide +kernel
theorem zd80_23 : decode zxm80.2.1 23 = .ok (.iastore, 1) := by decide +kernel
theorem zd80_24 : decode zxm80.2.1 24 = .ok (.aload_n 0, 1) := by decide +kernel
theorem zd80_25 : decode zxm80.2.1 25 = .ok (.dup, 1) := by decide +kernel
theorem zd80_26 : decode zxm80.2.1 26 = .ok (.getfield 15, 3) := by decide +kernel
theorem zd80_29 : decode zxm80.2.1 29 = .ok (.iconst 1, 1) := by decide +kernel
theorem zd80_30 : decode zxm80.2.1 30 = .ok (.iload_n 1, 1) := by decide +kernel
theorem zd80_31 : decode zxm80.2.1 31 = .ok (.ishl, 1) := by decide +kernel
theorem zd80_32 : decode zxm80.2.1 32 = .ok (.iconst 1, 1) := by decide +kernel
theorem zd80_33 : decode zxm80.2.1 33 = .ok (.iload_n 2, 1) := by decide +kernel
theorem zd80_34 : decode zxm80.2.1 34 = .ok (.ishl, 1) := by decide +kernel
theorem zd80_35 : decode zxm80.2.1 35 = .ok (.ior, 1) := by decide +kernel
theorem zd80_36 : decode zxm80.2.1 36 = .ok (.ior, 1) := by decide +kernel
theorem zd80_37 : decode zxm80.2.1 37 = .ok (.putfield 15, 3) := by decide +kernel
theorem zd80_40 : decode zxm80.2.1 40 = .ok (.aload_n 0, 1) := by decide +kernel
theorem zd80_41 : decode zxm80.2.1 41 = .ok (.dup, 1) := by decide +kernel
theorem zd80_42 : decode zxm80.2.1 42 = .ok (.getfield 9, 3) := by decide +kernel
theorem zd80_45 : decode zxm80.2.1 45 = .ok (.iconst 1, 1) := by decide +kernel
theorem zd80_46 : decode zxm80.2.1 46 = .ok (.iadd, 1) := by decide +kernel
theorem zd80_47 : decode zxm80.2.1 47 = .ok (.putfield 9, 3) := by decide +kernel
theorem zd80_50 : decode zxm80.2.1 50 = .ok (.return_, 1) := by decide +kernel
theorem zt_Tale_addLine {x1 : Int} {x2 : Int} {f0 : Int} {f1 : Int} {g0 : (Int → Int)} {o : Int × Int × (Int → Int)} (h : zf_Tale_addLine x1 x2 f0 f1 g0 = some o) : zv_Fn z_TB z_cl z_KX zy_Tale_addLine zxm80 (0, 0) [.inr 0, .inl x1, .inl x2] [.inl f0, .inl f1] [g0] none [.inl o.1, .inl o.2.1] [o.2.2] := zv_meth (K := (z_KF9, z_KC9, z_KL9, z_KT9, [], [], [], none)) (FT := z_FT) (MT := z_MT) (n := 3) zxp80 (z_ks9 _ (fun _ h => List.mem_cons_of_mem _ h) _ _ _ _ (fun j r h _ => by cases h)) (fun _ _ => zs_KX_p) zyw_Tale_addLine (fun va F G h => by obtain ⟨rfl, _⟩ := h; rfl) (fun va F G h => by obtain ⟨rfl, _⟩ := h; rfl) rfl fun good va F G hB hret hvret hP => by
  obtain ⟨rfl, rfl, rfl⟩ := hP
  unfold zf_Tale_addLine at h
  refine zv_ald hB zd80_0 rfl rfl rfl ?_
  refine zv_getr hB zd80_1 rfl ?_
  refine zv_ild hB zd80_4 rfl rfl ?_
  refine zv_dup2 hB zd80_5 rfl rfl ?_
  obtain ⟨c1, h⟩ := zi_if h
  refine zv_iald hB zd80_6 rfl rfl (zi_ix_ok c1).1 (zi_ix_ok c1).2 (fun _ _ => ?_)
  refine zv_con hB zd80_7 rfl ?_
  refine zv_ild hB zd80_8 rfl rfl ?_
  refine zv_shlw hB zd80_9 ?_
  refine zv_orw hB zd80_10 ?_
  refine zv_iast hB zd80_11 rfl rfl (zi_ix_ok c1).1 (zi_ix_ok c1).2 ?_
  refine zv_ald hB zd80_12 rfl rfl rfl ?_
  refine zv_getr hB zd80_13 rfl ?_
  refine zv_ild hB zd80_16 rfl rfl ?_
  refine zv_dup2 hB zd80_17 rfl rfl ?_
  obtain ⟨c2, h⟩ := zi_if h
  refine zv_iald hB zd80_18 rfl rfl (zi_ix_ok c2).1 (zi_ix_ok c2).2 (fun _ _ => ?_)
  refine zv_con hB zd80_19 rfl ?_
  refine zv_ild hB zd80_20 rfl rfl ?_
  refine zv_shlw hB zd80_21 ?_
  refine zv_orw hB zd80_22 ?_
  refine zv_iast hB zd80_23 rfl rfl (zi_ix_ok c2).1 (zi_ix_ok c2).2 ?_
  refine zv_ald hB zd80_24 rfl rfl rfl ?_
  refine zv_dup hB zd80_25 rfl ?_
  refine zv_getf hB zd80_26 rfl rfl (fun _ _ => ?_)
  refine zv_con hB zd80_29 rfl ?_
  refine zv_ild hB zd80_30 rfl rfl ?_
  refine zv_shlw hB zd80_31 ?_
  refine zv_con hB zd80_32 rfl ?_
  refine zv_ild hB zd80_33 rfl rfl ?_
  refine zv_shlw hB zd80_34 ?_
  refine zv_orw hB zd80_35 ?_
  refine zv_orw hB zd80_36 ?_
  refine zv_putf hB zd80_37 rfl rfl (fun h => by cases h) rfl ?_
  refine zv_ald hB zd80_40 rfl rfl rfl ?_
  refine zv_dup hB zd80_41 rfl ?_
  refine zv_getf hB zd80_42 rfl rfl (fun _ _ => ?_)
  refine zv_con hB zd80_45 rfl ?_
  refine zv_addw hB zd80_46 ?_
  refine zv_putf hB zd80_47 rfl rfl (fun h => by cases h) rfl ?_
  have hw := Option.some.inj h
  subst hw
  exact hvret _ _ _ _ zd80_50 trivial ⟨rfl, rfl, rfl⟩
