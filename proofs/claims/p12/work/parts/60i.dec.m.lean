/-! 60i.dec, 60j.dec, 60k.dec -/
section
/-! Methods as functions, and that they do what these do. -/
/-! LawReader_read (ILStarTales$Law;)I -/
-- names: 0 LawReader('arg', 0), 1 Law('arg', 2), 2 (0, 220)(0, 5, 0), 3 (0, 200)(1, 4, 0), 4 (0, 200)(1, 4, 1), 5 (0, 14)(1, 4, 3), 6 (0, 14)(1, 4, 4), 7 (0, 14)(1, 4, 5), 8 (0, 14)(1, 4, 6)
-- fields: f0 = 0.length_, f1 = 0.at_, f2 = 0.fault_, f3 = 0.law_, f4 = 1.steps_, f5 = 1.clauses_, f6 = 1.tellsSeen_, f7 = 1.tellsLines_, f8 = 1.seenByPlace_, f9 = 1.linesByPlace_; arrays: g0 = 2, g1 = 3, g2 = 4, g3 = 5, g4 = 6, g5 = 7, g6 = 8; out: [('ret', None), ('f', 0), ('f', 1), ('f', 2), ('f', 4), ('f', 5), ('f', 6), ('f', 7), ('f', 8), ('f', 9), ('g', 1), ('g', 2), ('g', 3), ('g', 4), ('g', 5), ('g', 6)]
abbrev zy_LawReader_read : zNL := (9, [(0, 5), (1, 4)], [(0, 5, 1, 0), (0, 5, 2, 1), (0, 5, 3, 2), (0, 5, 4, 3), (1, 4, 2, 4), (1, 4, 7, 5), (1, 4, 8, 6), (1, 4, 9, 7), (1, 4, 10, 8), (1, 4, 11, 9)], [(0, 5, 0, 2), (1, 4, 0, 3), (1, 4, 1, 4), (1, 4, 3, 5), (1, 4, 4, 6), (1, 4, 5, 7), (1, 4, 6, 8)], [(2, 0, 220, 0), (3, 0, 200, 1), (4, 0, 200, 2), (5, 0, 14, 3), (6, 0, 14, 4), (7, 0, 14, 5), (8, 0, 14, 6)])
theorem zyw_LawReader_read : zv_wf zy_LawReader_read = true := by decide +kernel
theorem zye_LawReader_read : zv_ek2 zy_LawReader_read = true := by decide +kernel
def zf_LawReader_read_l0_b (f0 : Int) (g0 : (Int → Int)) (rec : Int → Int → Int → Int → Int → Int → Int → Int → Int → (Int → Int) → (Int → Int) → (Int → Int) → (Int → Int) → (Int → Int) → (Int → Int) → Option (Int × Int × Int × Int × Int × Int × Int × Int × (Int → Int) × (Int → Int) × (Int → Int) × (Int → Int) × (Int → Int) × (Int → Int))) (x3 : Int) (f1 : Int) (f2 : Int) (f4 : Int) (f5 : Int) (f6 : Int) (f7 : Int) (f8 : Int) (f9 : Int) (g1 : (Int → Int)) (g2 : (Int → Int)) (g3 : (Int → Int)) (g4 : (Int → Int)) (g5 : (Int → Int)) (g6 : (Int → Int)) : Option (Int × Int × Int × Int × Int × Int × Int × Int × (Int → Int) × (Int → Int) × (Int → Int) × (Int → Int) × (Int → Int) × (Int → Int)) := if x3 < 14 then (if f2 = 0 then (if f1 < f0 then ((zf_LawReader_skip 59 f2 f1 f0 g0).bind fun r7 => ((zf_LawReader_readClause r7.1 r7.2 f0 f5 f4 f7 f9 f6 f8 g0 g1 g2 g3 g4 g5 g6).bind fun r8 => (rec (zi_w (x3 + 1)) r8.2.1 r8.1 r8.2.2.2.1 r8.2.2.1 r8.2.2.2.2.2.2.1 r8.2.2.2.2.1 r8.2.2.2.2.2.2.2.1 r8.2.2.2.2.2.1 r8.2.2.2.2.2.2.2.2.1 r8.2.2.2.2.2.2.2.2.2.1 r8.2.2.2.2.2.2.2.2.2.2.1 r8.2.2.2.2.2.2.2.2.2.2.2.1 r8.2.2.2.2.2.2.2.2.2.2.2.2.1 r8.2.2.2.2.2.2.2.2.2.2.2.2.2))) else (some (f1, f2, f4, f5, f6, f7, f8, f9, g1, g2, g3, g4, g5, g6))) else (some (f1, f2, f4, f5, f6, f7, f8, f9, g1, g2, g3, g4, g5, g6))) else (some (f1, f2, f4, f5, f6, f7, f8, f9, g1, g2, g3, g4, g5, g6))
def zf_LawReader_read_l0 (f0 : Int) (g0 : (Int → Int)) : Nat → Int → Int → Int → Int → Int → Int → Int → Int → Int → (Int → Int) → (Int → Int) → (Int → Int) → (Int → Int) → (Int → Int) → (Int → Int) → Option (Int × Int × Int × Int × Int × Int × Int × Int × (Int → Int) × (Int → Int) × (Int → Int) × (Int → Int) × (Int → Int) × (Int → Int))
  | 0, _, _, _, _, _, _, _, _, _, _, _, _, _, _, _ => none
  | n + 1, x3, f1, f2, f4, f5, f6, f7, f8, f9, g1, g2, g3, g4, g5, g6 => zf_LawReader_read_l0_b f0 g0 (zf_LawReader_read_l0 f0 g0 n) x3 f1 f2 f4 f5 f6 f7 f8 f9 g1 g2 g3 g4 g5 g6
def zf_LawReader_read (x1 : Int) (f0 : Int) (f1 : Int) (f2 : Int) (f4 : Int) (f5 : Int) (f6 : Int) (f7 : Int) (f8 : Int) (f9 : Int) (g0 : (Int → Int)) (g1 : (Int → Int)) (g2 : (Int → Int)) (g3 : (Int → Int)) (g4 : (Int → Int)) (g5 : (Int → Int)) (g6 : (Int → Int)) : Option (Int × Int × Int × Int × Int × Int × Int × Int × Int × Int × (Int → Int) × (Int → Int) × (Int → Int) × (Int → Int) × (Int → Int) × (Int → Int)) := (zf_Math_min x1 220).bind fun r1 => ((zf_Law_clear f4 f5 f6 f7 f8 f9).bind fun r2 => ((zf_LawReader_readClause 0 0 r1 r2.2.1 r2.1 r2.2.2.2.1 r2.2.2.2.2.2 r2.2.2.1 r2.2.2.2.2.1 g0 g1 g2 g3 g4 g5 g6).bind fun r3 => ((zf_LawReader_read_l0 r1 g0 zi_fu 0 r3.2.1 r3.1 r3.2.2.2.1 r3.2.2.1 r3.2.2.2.2.2.2.1 r3.2.2.2.2.1 r3.2.2.2.2.2.2.2.1 r3.2.2.2.2.2.1 r3.2.2.2.2.2.2.2.2.1 r3.2.2.2.2.2.2.2.2.2.1 r3.2.2.2.2.2.2.2.2.2.2.1 r3.2.2.2.2.2.2.2.2.2.2.2.1 r3.2.2.2.2.2.2.2.2.2.2.2.2.1 r3.2.2.2.2.2.2.2.2.2.2.2.2.2).bind fun q9 => (if q9.2.1 = 0 then (some (q9.2.2.2.1, r1, q9.1, q9.2.1, q9.2.2.1, q9.2.2.2.1, q9.2.2.2.2.1, q9.2.2.2.2.2.1, q9.2.2.2.2.2.2.1, q9.2.2.2.2.2.2.2.1, q9.2.2.2.2.2.2.2.2.1, q9.2.2.2.2.2.2.2.2.2.1, q9.2.2.2.2.2.2.2.2.2.2.1, q9.2.2.2.2.2.2.2.2.2.2.2.1, q9.2.2.2.2.2.2.2.2.2.2.2.2.1, q9.2.2.2.2.2.2.2.2.2.2.2.2.2)) else (some (q9.2.1, r1, q9.1, q9.2.1, q9.2.2.1, q9.2.2.2.1, q9.2.2.2.2.1, q9.2.2.2.2.2.1, q9.2.2.2.2.2.2.1, q9.2.2.2.2.2.2.2.1, q9.2.2.2.2.2.2.2.2.1, q9.2.2.2.2.2.2.2.2.2.1, q9.2.2.2.2.2.2.2.2.2.2.1, q9.2.2.2.2.2.2.2.2.2.2.2.1, q9.2.2.2.2.2.2.2.2.2.2.2.2.1, q9.2.2.2.2.2.2.2.2.2.2.2.2.2))))))
theorem zd36_0 : decode zxm36.2.1 0 = .ok (.aload_n 0, 1) := by decide +kernel
theorem zd36_1 : decode zxm36.2.1 1 = .ok (.iload_n 1, 1) := by decide +kernel
theorem zd36_2 : decode zxm36.2.1 2 = .ok (.aload_n 0, 1) := by decide +kernel
theorem zd36_3 : decode zxm36.2.1 3 = .ok (.getfield 21, 3) := by decide +kernel
theorem zd36_6 : decode zxm36.2.1 6 = .ok (.arraylength, 1) := by decide +kernel
theorem zd36_7 : decode zxm36.2.1 7 = .ok (.invokestatic 29, 3) := by decide +kernel
theorem zd36_10 : decode zxm36.2.1 10 = .ok (.putfield 9, 3) := by decide +kernel
theorem zd36_13 : decode zxm36.2.1 13 = .ok (.aload_n 0, 1) := by decide +kernel
theorem zd36_14 : decode zxm36.2.1 14 = .ok (.iconst 0, 1) := by decide +kernel
theorem zd36_15 : decode zxm36.2.1 15 = .ok (.putfield 15, 3) := by decide +kernel
theorem zd36_18 : decode zxm36.2.1 18 = .ok (.aload_n 0, 1) := by decide +kernel
theorem zd36_19 : decode zxm36.2.1 19 = .ok (.iconst 0, 1) := by decide +kernel
theorem zd36_20 : decode zxm36.2.1 20 = .ok (.putfield 18, 3) := by decide +kernel
theorem zd36_23 : decode zxm36.2.1 23 = .ok (.aload_n 0, 1) := by decide +kernel
theorem zd36_24 : decode zxm36.2.1 24 = .ok (.aload_n 2, 1) := by decide +kernel
theorem zd36_25 : decode zxm36.2.1 25 = .ok (.putfield 25, 3) := by decide +kernel
theorem zd36_28 : decode zxm36.2.1 28 = .ok (.aload_n 0, 1) := by decide +kernel
theorem zd36_29 : decode zxm36.2.1 29 = .ok (.getfield 25, 3) := by decide +kernel
theorem zd36_32 : decode zxm36.2.1 32 = .ok (.invokevirtual 35, 3) := by decide +kernel
theorem zd36_35 : decode zxm36.2.1 35 = .ok (.aload_n 0, 1) := by decide +kernel
theorem zd36_36 : decode zxm36.2.1 36 = .ok (.invokevirtual 40, 3) := by decide +kernel
theorem zd36_39 : decode zxm36.2.1 39 = .ok (.iconst 0, 1) := by decide +kernel
theorem zd36_40 : decode zxm36.2.1 40 = .ok (.istore_n 3, 1) := by decide +kernel
theorem zd36_41 : decode zxm36.2.1 41 = .ok (.iload_n 3, 1) := by decide +kernel
theorem zd36_42 : decode zxm36.2.1 42 = .ok (.bipush 14, 2) := by decide +kernel
theorem zd36_44 : decode zxm36.2.1 44 = .ok (.if_icmp .ge 37, 3) := by decide +kernel
theorem zd36_47 : decode zxm36.2.1 47 = .ok (.aload_n 0, 1) := by decide +kernel
theorem zd36_48 : decode zxm36.2.1 48 = .ok (.getfield 18, 3) := by decide +kernel
theorem zd36_51 : decode zxm36.2.1 51 = .ok (.ifCond .ne 30, 3) := by decide +kernel
theorem zd36_54 : decode zxm36.2.1 54 = .ok (.aload_n 0, 1) := by decide +kernel
theorem zd36_55 : decode zxm36.2.1 55 = .ok (.getfield 15, 3) := by decide +kernel
theorem zd36_58 : decode zxm36.2.1 58 = .ok (.aload_n 0, 1) := by decide +kernel
theorem zd36_59 : decode zxm36.2.1 59 = .ok (.getfield 9, 3) := by decide +kernel
theorem zd36_62 : decode zxm36.2.1 62 = .ok (.if_icmp .ge 19, 3) := by decide +kernel
theorem zd36_65 : decode zxm36.2.1 65 = .ok (.aload_n 0, 1) := by decide +kernel
theorem zd36_66 : decode zxm36.2.1 66 = .ok (.bipush 59, 2) := by decide +kernel
theorem zd36_68 : decode zxm36.2.1 68 = .ok (.invokevirtual 43, 3) := by decide +kernel
theorem zd36_71 : decode zxm36.2.1 71 = .ok (.aload_n 0, 1) := by decide +kernel
theorem zd36_72 : decode zxm36.2.1 72 = .ok (.invokevirtual 40, 3) := by decide +kernel
theorem zd36_75 : decode zxm36.2.1 75 = .ok (.iinc 3 1, 3) := by decide +kernel
theorem zd36_78 : decode zxm36.2.1 78 = .ok (.goto (-37), 3) := by decide +kernel
theorem zd36_81 : decode zxm36.2.1 81 = .ok (.aload_n 0, 1) := by decide +kernel
theorem zd36_82 : decode zxm36.2.1 82 = .ok (.getfield 18, 3) := by decide +kernel
theorem zd36_85 : decode zxm36.2.1 85 = .ok (.ifCond .eq 10, 3) := by decide +kernel
theorem zd36_88 : decode zxm36.2.1 88 = .ok (.aload_n 0, 1) := by decide +kernel
theorem zd36_89 : decode zxm36.2.1 89 = .ok (.getfield 18, 3) := by decide +kernel
theorem zd36_92 : decode zxm36.2.1 92 = .ok (.goto 10, 3) := by decide +kernel
theorem zd36_95 : decode zxm36.2.1 95 = .ok (.aload_n 0, 1) := by decide +kernel
theorem zd36_96 : decode zxm36.2.1 96 = .ok (.getfield 25, 3) := by decide +kernel
theorem zd36_99 : decode zxm36.2.1 99 = .ok (.getfield 47, 3) := by decide +kernel
theorem zd36_102 : decode zxm36.2.1 102 = .ok (.ireturn, 1) := by decide +kernel
theorem zt_LawReader_read {x1 : Int} {f0 : Int} {f1 : Int} {f2 : Int} {f4 : Int} {f5 : Int} {f6 : Int} {f7 : Int} {f8 : Int} {f9 : Int} {g0 : (Int → Int)} {g1 : (Int → Int)} {g2 : (Int → Int)} {g3 : (Int → Int)} {g4 : (Int → Int)} {g5 : (Int → Int)} {g6 : (Int → Int)} {o : Int × Int × Int × Int × Int × Int × Int × Int × Int × Int × (Int → Int) × (Int → Int) × (Int → Int) × (Int → Int) × (Int → Int) × (Int → Int)} (h : zf_LawReader_read x1 f0 f1 f2 f4 f5 f6 f7 f8 f9 g0 g1 g2 g3 g4 g5 g6 = some o) : zv_Fn z_TB z_cl z_KX zy_LawReader_read zxm36 (80, 4800) [.inr 0, .inl x1, .inr 1] [.inl f0, .inl f1, .inl f2, .inr 1000, .inl f4, .inl f5, .inl f6, .inl f7, .inl f8, .inl f9] [g0, g1, g2, g3, g4, g5, g6] (some o.1) [.inl o.2.1, .inl o.2.2.1, .inl o.2.2.2.1, .inr 1, .inl o.2.2.2.2.1, .inl o.2.2.2.2.2.1, .inl o.2.2.2.2.2.2.1, .inl o.2.2.2.2.2.2.2.1, .inl o.2.2.2.2.2.2.2.2.1, .inl o.2.2.2.2.2.2.2.2.2.1] [g0, o.2.2.2.2.2.2.2.2.2.2.1, o.2.2.2.2.2.2.2.2.2.2.2.1, o.2.2.2.2.2.2.2.2.2.2.2.2.1, o.2.2.2.2.2.2.2.2.2.2.2.2.2.1, o.2.2.2.2.2.2.2.2.2.2.2.2.2.2.1, o.2.2.2.2.2.2.2.2.2.2.2.2.2.2.2] := zv_meth (K := (z_KF3, z_KC3, z_KL3, z_KT3, [], [], [], none)) (FT := z_FT) (MT := z_MT) (n := 3) zxp36 (z_ks3 _ (fun _ h => List.mem_cons_of_mem _ h) _ _ _ _ (fun j r h _ => by cases h)) (fun _ _ => zs_KX_p) zyw_LawReader_read (fun va F G h => by obtain ⟨rfl, _⟩ := h; rfl) (fun va F G h => by obtain ⟨rfl, _⟩ := h; rfl) rfl fun good va F G hB hret hvret hP => by
  obtain ⟨rfl, rfl, rfl⟩ := hP
  have l0 : ∀ (n : Nat) (x3 : Int) (f0 : Int) (f1 : Int) (f2 : Int) (f4 : Int) (f5 : Int) (f6 : Int) (f7 : Int) (f8 : Int) (f9 : Int) (g1 : (Int → Int)) (g2 : (Int → Int)) (g3 : (Int → Int)) (g4 : (Int → Int)) (g5 : (Int → Int)) (g6 : (Int → Int)) (q : Int × Int × Int × Int × Int × Int × Int × Int × (Int → Int) × (Int → Int) × (Int → Int) × (Int → Int) × (Int → Int) × (Int → Int)), zf_LawReader_read_l0 f0 g0 n x3 f1 f2 f4 f5 f6 f7 f8 f9 g1 g2 g3 g4 g5 g6 = some q → (good 81 [.inr 0, .inr 1000, .inr 1000, .inr 1000] [] [.inl f0, .inl q.1, .inl q.2.1, .inr 1, .inl q.2.2.1, .inl q.2.2.2.1, .inl q.2.2.2.2.1, .inl q.2.2.2.2.2.1, .inl q.2.2.2.2.2.2.1, .inl q.2.2.2.2.2.2.2.1] [g0, q.2.2.2.2.2.2.2.2.1, q.2.2.2.2.2.2.2.2.2.1, q.2.2.2.2.2.2.2.2.2.2.1, q.2.2.2.2.2.2.2.2.2.2.2.1, q.2.2.2.2.2.2.2.2.2.2.2.2.1, q.2.2.2.2.2.2.2.2.2.2.2.2.2]) → good 41 [.inr 0, .inr 1000, .inr 1000, .inl x3] [] [.inl f0, .inl f1, .inl f2, .inr 1, .inl f4, .inl f5, .inl f6, .inl f7, .inl f8, .inl f9] [g0, g1, g2, g3, g4, g5, g6] := by
    intro n
    induction n with
    | zero => intro x3 f0 f1 f2 f4 f5 f6 f7 f8 f9 g1 g2 g3 g4 g5 g6 q h; exact absurd (show none = some q from h) (fun h => by cases h)
    | succ n ih =>
      intro x3 f0 f1 f2 f4 f5 f6 f7 f8 f9 g1 g2 g3 g4 g5 g6 q h hK
      replace h : zf_LawReader_read_l0_b f0 g0 (zf_LawReader_read_l0 f0 g0 n) x3 f1 f2 f4 f5 f6 f7 f8 f9 g1 g2 g3 g4 g5 g6 = some q := h
      unfold zf_LawReader_read_l0_b at h
      refine zv_ild hB zd36_41 rfl rfl ?_
      refine zv_con hB zd36_42 rfl ?_
      refine zv_cge hB zd36_44 rfl (fun hc4 => ?_) (fun hc4 => ?_)
      · rw [if_neg (Int.not_lt.mpr hc4)] at h
        have hq := Option.some.inj h
        subst hq
        refine zv_wk hB (L' := [.inr 0, .inr 1000, .inr 1000, .inr 1000]) (F' := [.inl f0, .inl f1, .inl f2, .inr 1, .inl f4, .inl f5, .inl f6, .inl f7, .inl f8, .inl f9]) ⟨fun _ => rfl, fun (h : zv_is (.inr 1000)) => (Nat.lt_irrefl 1000 h).elim, fun (h : zv_is (.inr 1000)) => (Nat.lt_irrefl 1000 h).elim, fun (h : zv_is (.inr 1000)) => (Nat.lt_irrefl 1000 h).elim, trivial⟩ ⟨fun _ => rfl, fun _ => rfl, fun _ => rfl, fun _ => rfl, fun _ => rfl, fun _ => rfl, fun _ => rfl, fun _ => rfl, fun _ => rfl, fun _ => rfl, trivial⟩ ?_
        exact hK
      · rw [if_pos hc4] at h
        refine zv_ald hB zd36_47 rfl rfl rfl ?_
        refine zv_getf hB zd36_48 rfl rfl (fun _ _ => ?_)
        refine zv_zne hB zd36_51 rfl (fun hc5 => ?_) (fun hc5 => ?_)
        · rw [if_neg hc5] at h
          have hq := Option.some.inj h
          subst hq
          refine zv_wk hB (L' := [.inr 0, .inr 1000, .inr 1000, .inr 1000]) (F' := [.inl f0, .inl f1, .inl f2, .inr 1, .inl f4, .inl f5, .inl f6, .inl f7, .inl f8, .inl f9]) ⟨fun _ => rfl, fun (h : zv_is (.inr 1000)) => (Nat.lt_irrefl 1000 h).elim, fun (h : zv_is (.inr 1000)) => (Nat.lt_irrefl 1000 h).elim, fun (h : zv_is (.inr 1000)) => (Nat.lt_irrefl 1000 h).elim, trivial⟩ ⟨fun _ => rfl, fun _ => rfl, fun _ => rfl, fun _ => rfl, fun _ => rfl, fun _ => rfl, fun _ => rfl, fun _ => rfl, fun _ => rfl, fun _ => rfl, trivial⟩ ?_
          exact hK
        · rw [if_pos hc5] at h
          refine zv_ald hB zd36_54 rfl rfl rfl ?_
          refine zv_getf hB zd36_55 rfl rfl (fun _ _ => ?_)
          refine zv_ald hB zd36_58 rfl rfl rfl ?_
          refine zv_getf hB zd36_59 rfl rfl (fun _ _ => ?_)
          refine zv_cge hB zd36_62 rfl (fun hc6 => ?_) (fun hc6 => ?_)
          · rw [if_neg (Int.not_lt.mpr hc6)] at h
            have hq := Option.some.inj h
            subst hq
            refine zv_wk hB (L' := [.inr 0, .inr 1000, .inr 1000, .inr 1000]) (F' := [.inl f0, .inl f1, .inl f2, .inr 1, .inl f4, .inl f5, .inl f6, .inl f7, .inl f8, .inl f9]) ⟨fun _ => rfl, fun (h : zv_is (.inr 1000)) => (Nat.lt_irrefl 1000 h).elim, fun (h : zv_is (.inr 1000)) => (Nat.lt_irrefl 1000 h).elim, fun (h : zv_is (.inr 1000)) => (Nat.lt_irrefl 1000 h).elim, trivial⟩ ⟨fun _ => rfl, fun _ => rfl, fun _ => rfl, fun _ => rfl, fun _ => rfl, fun _ => rfl, fun _ => rfl, fun _ => rfl, fun _ => rfl, fun _ => rfl, trivial⟩ ?_
            exact hK
          · rw [if_pos hc6] at h
            refine zv_ald hB zd36_65 rfl rfl rfl ?_
            refine zv_con hB zd36_66 rfl ?_
            obtain ⟨r7, hr7, h⟩ := zi_bind h
            refine zv_cv hB (zv_emq (va2 := [.inr 0, .inl 59]) (F := [.inl f0, .inl f1, .inl f2, .inr 1, .inl f4, .inl f5, .inl f6, .inl f7, .inl f8, .inl f9]) (F' := [.inl f0, .inl r7.2, .inl r7.1, .inr 1, .inl f4, .inl f5, .inl f6, .inl f7, .inl f8, .inl f9]) (G := [g0, g1, g2, g3, g4, g5, g6]) (G' := [g0, g1, g2, g3, g4, g5, g6]) (ρ := [0, 2]) (φ := [2, 1, 0]) (ψ := [0]) [some 2, some 1, some 0, none, none, none, none, none, none, none] [some 0, none, none, none, none, none, none] zyw_LawReader_skip zyw_LawReader_read zye_LawReader_read (by decide +kernel) (zt_LawReader_skip hr7) ⟨⟨_, rfl, fun _ => rfl⟩, ⟨_, rfl, fun _ => rfl⟩, ⟨_, rfl, fun _ => rfl⟩, trivial⟩ ⟨rfl, trivial⟩ rfl rfl rfl rfl rfl rfl rfl) zd36_68 zxt46 rfl (by decide) (by decide) rfl ?_
            refine zv_ald hB zd36_71 rfl rfl rfl ?_
            obtain ⟨r8, hr8, h⟩ := zi_bind h
            refine zv_cv hB (zv_emq (va2 := [.inr 0]) (F := [.inl f0, .inl r7.2, .inl r7.1, .inr 1, .inl f4, .inl f5, .inl f6, .inl f7, .inl f8, .inl f9]) (F' := [.inl f0, .inl r8.2.1, .inl r8.1, .inr 1, .inl r8.2.2.2.1, .inl r8.2.2.1, .inl r8.2.2.2.2.2.2.1, .inl r8.2.2.2.2.1, .inl r8.2.2.2.2.2.2.2.1, .inl r8.2.2.2.2.2.1]) (G := [g0, g1, g2, g3, g4, g5, g6]) (G' := [g0, r8.2.2.2.2.2.2.2.2.1, r8.2.2.2.2.2.2.2.2.2.1, r8.2.2.2.2.2.2.2.2.2.2.1, r8.2.2.2.2.2.2.2.2.2.2.2.1, r8.2.2.2.2.2.2.2.2.2.2.2.2.1, r8.2.2.2.2.2.2.2.2.2.2.2.2.2]) (ρ := [0, 2, 1, 3, 4, 5, 6, 7, 8]) (φ := [2, 1, 0, 3, 5, 4, 7, 9, 6, 8]) (ψ := [0, 1, 2, 3, 4, 5, 6]) [some 2, some 1, some 0, some 3, some 5, some 4, some 8, some 6, some 9, some 7] [some 0, some 1, some 2, some 3, some 4, some 5, some 6] zyw_LawReader_readClause zyw_LawReader_read zye_LawReader_read (by decide +kernel) (zt_LawReader_readClause hr8) ⟨⟨_, rfl, fun _ => rfl⟩, ⟨_, rfl, fun _ => rfl⟩, ⟨_, rfl, fun _ => rfl⟩, ⟨_, rfl, fun _ => rfl⟩, ⟨_, rfl, fun _ => rfl⟩, ⟨_, rfl, fun _ => rfl⟩, ⟨_, rfl, fun _ => rfl⟩, ⟨_, rfl, fun _ => rfl⟩, ⟨_, rfl, fun _ => rfl⟩, ⟨_, rfl, fun _ => rfl⟩, trivial⟩ ⟨rfl, rfl, rfl, rfl, rfl, rfl, rfl, trivial⟩ rfl rfl rfl rfl rfl rfl rfl) zd36_72 zxt39 rfl (by decide) (by decide) rfl ?_
            refine zv_iincw hB zd36_75 rfl rfl ?_
            refine zv_goto hB zd36_78 rfl ?_
            exact ih _ _ _ _ _ _ _ _ _ _ _ _ _ _ _ _ q h hK
  unfold zf_LawReader_read at h
  refine zv_ald hB zd36_0 rfl rfl rfl ?_
  refine zv_ild hB zd36_1 rfl rfl ?_
  refine zv_ald hB zd36_2 rfl rfl rfl ?_
  refine zv_getr hB zd36_3 rfl ?_
  refine zv_alen (v := 220) hB zd36_6 rfl rfl rfl rfl ?_
  obtain ⟨r1, hr1, h⟩ := zi_bind h
  refine zv_cs hB (zv_emq (va2 := [.inl x1, .inl 220]) (F := [.inl f0, .inl f1, .inl f2, .inr 1000, .inl f4, .inl f5, .inl f6, .inl f7, .inl f8, .inl f9]) (F' := [.inl f0, .inl f1, .inl f2, .inr 1000, .inl f4, .inl f5, .inl f6, .inl f7, .inl f8, .inl f9]) (G := [g0, g1, g2, g3, g4, g5, g6]) (G' := [g0, g1, g2, g3, g4, g5, g6]) (ρ := []) (φ := []) (ψ := []) [none, none, none, none, none, none, none, none, none, none] [none, none, none, none, none, none, none] zyw_Math_min zyw_LawReader_read zye_LawReader_read (by decide +kernel) (zt_Math_min hr1) trivial trivial rfl rfl rfl rfl rfl rfl rfl) zd36_7 zxt37 rfl (by decide) (by decide) rfl ?_
  refine zv_putf hB zd36_10 rfl rfl (fun h => by cases h) rfl ?_
  refine zv_ald hB zd36_13 rfl rfl rfl ?_
  refine zv_con hB zd36_14 rfl ?_
  refine zv_putf hB zd36_15 rfl rfl (fun h => by cases h) rfl ?_
  refine zv_ald hB zd36_18 rfl rfl rfl ?_
  refine zv_con hB zd36_19 rfl ?_
  refine zv_putf hB zd36_20 rfl rfl (fun h => by cases h) rfl ?_
  refine zv_ald hB zd36_23 rfl rfl rfl ?_
  refine zv_ald hB zd36_24 rfl rfl rfl ?_
  refine zv_putq hB zd36_25 rfl rfl (by decide) rfl ?_
  refine zv_ald hB zd36_28 rfl rfl rfl ?_
  refine zv_getq hB zd36_29 rfl rfl rfl ?_
  obtain ⟨r2, hr2, h⟩ := zi_bind h
  refine zv_cv hB (zv_emq (va2 := [.inr 1]) (F := [.inl r1, .inl 0, .inl 0, .inr 1, .inl f4, .inl f5, .inl f6, .inl f7, .inl f8, .inl f9]) (F' := [.inl r1, .inl 0, .inl 0, .inr 1, .inl r2.1, .inl r2.2.1, .inl r2.2.2.1, .inl r2.2.2.2.1, .inl r2.2.2.2.2.1, .inl r2.2.2.2.2.2]) (G := [g0, g1, g2, g3, g4, g5, g6]) (G' := [g0, g1, g2, g3, g4, g5, g6]) (ρ := [1]) (φ := [4, 5, 6, 7, 8, 9]) (ψ := []) [none, none, none, none, some 0, some 1, some 2, some 3, some 4, some 5] [none, none, none, none, none, none, none] zyw_Law_clear zyw_LawReader_read zye_LawReader_read (by decide +kernel) (zt_Law_clear hr2) ⟨⟨_, rfl, fun _ => rfl⟩, ⟨_, rfl, fun _ => rfl⟩, ⟨_, rfl, fun _ => rfl⟩, ⟨_, rfl, fun _ => rfl⟩, ⟨_, rfl, fun _ => rfl⟩, ⟨_, rfl, fun _ => rfl⟩, trivial⟩ trivial rfl rfl rfl rfl rfl rfl rfl) zd36_32 zxt38 rfl (by decide) (by decide) rfl ?_
  refine zv_ald hB zd36_35 rfl rfl rfl ?_
  obtain ⟨r3, hr3, h⟩ := zi_bind h
  refine zv_cv hB (zv_emq (va2 := [.inr 0]) (F := [.inl r1, .inl 0, .inl 0, .inr 1, .inl r2.1, .inl r2.2.1, .inl r2.2.2.1, .inl r2.2.2.2.1, .inl r2.2.2.2.2.1, .inl r2.2.2.2.2.2]) (F' := [.inl r1, .inl r3.2.1, .inl r3.1, .inr 1, .inl r3.2.2.2.1, .inl r3.2.2.1, .inl r3.2.2.2.2.2.2.1, .inl r3.2.2.2.2.1, .inl r3.2.2.2.2.2.2.2.1, .inl r3.2.2.2.2.2.1]) (G := [g0, g1, g2, g3, g4, g5, g6]) (G' := [g0, r3.2.2.2.2.2.2.2.2.1, r3.2.2.2.2.2.2.2.2.2.1, r3.2.2.2.2.2.2.2.2.2.2.1, r3.2.2.2.2.2.2.2.2.2.2.2.1, r3.2.2.2.2.2.2.2.2.2.2.2.2.1, r3.2.2.2.2.2.2.2.2.2.2.2.2.2]) (ρ := [0, 2, 1, 3, 4, 5, 6, 7, 8]) (φ := [2, 1, 0, 3, 5, 4, 7, 9, 6, 8]) (ψ := [0, 1, 2, 3, 4, 5, 6]) [some 2, some 1, some 0, some 3, some 5, some 4, some 8, some 6, some 9, some 7] [some 0, some 1, some 2, some 3, some 4, some 5, some 6] zyw_LawReader_readClause zyw_LawReader_read zye_LawReader_read (by decide +kernel) (zt_LawReader_readClause hr3) ⟨⟨_, rfl, fun _ => rfl⟩, ⟨_, rfl, fun _ => rfl⟩, ⟨_, rfl, fun _ => rfl⟩, ⟨_, rfl, fun _ => rfl⟩, ⟨_, rfl, fun _ => rfl⟩, ⟨_, rfl, fun _ => rfl⟩, ⟨_, rfl, fun _ => rfl⟩, ⟨_, rfl, fun _ => rfl⟩, ⟨_, rfl, fun _ => rfl⟩, ⟨_, rfl, fun _ => rfl⟩, trivial⟩ ⟨rfl, rfl, rfl, rfl, rfl, rfl, rfl, trivial⟩ rfl rfl rfl rfl rfl rfl rfl) zd36_36 zxt39 rfl (by decide) (by decide) rfl ?_
  refine zv_con hB zd36_39 rfl ?_
  refine zv_ist hB zd36_40 rfl rfl rfl ?_
  obtain ⟨q9, hq9, h⟩ := zi_bind h
  refine zv_wk hB (L' := [.inr 0, .inr 1000, .inr 1000, .inl 0]) (F' := [.inl r1, .inl r3.2.1, .inl r3.1, .inr 1, .inl r3.2.2.2.1, .inl r3.2.2.1, .inl r3.2.2.2.2.2.2.1, .inl r3.2.2.2.2.1, .inl r3.2.2.2.2.2.2.2.1, .inl r3.2.2.2.2.2.1]) ⟨fun _ => rfl, fun (h : zv_is (.inr 1000)) => (Nat.lt_irrefl 1000 h).elim, fun (h : zv_is (.inr 1000)) => (Nat.lt_irrefl 1000 h).elim, fun _ => rfl, trivial⟩ ⟨fun _ => rfl, fun _ => rfl, fun _ => rfl, fun _ => rfl, fun _ => rfl, fun _ => rfl, fun _ => rfl, fun _ => rfl, fun _ => rfl, fun _ => rfl, trivial⟩ ?_
  refine l0 _ _ _ _ _ _ _ _ _ _ _ _ _ _ _ _ _ q9 hq9 ?_
  show good 81 [.inr 0, .inr 1000, .inr 1000, .inr 1000] [] [.inl r1, .inl q9.1, .inl q9.2.1, .inr 1, .inl q9.2.2.1, .inl q9.2.2.2.1, .inl q9.2.2.2.2.1, .inl q9.2.2.2.2.2.1, .inl q9.2.2.2.2.2.2.1, .inl q9.2.2.2.2.2.2.2.1] [g0, q9.2.2.2.2.2.2.2.2.1, q9.2.2.2.2.2.2.2.2.2.1, q9.2.2.2.2.2.2.2.2.2.2.1, q9.2.2.2.2.2.2.2.2.2.2.2.1, q9.2.2.2.2.2.2.2.2.2.2.2.2.1, q9.2.2.2.2.2.2.2.2.2.2.2.2.2]
  refine zv_ald hB zd36_81 rfl rfl rfl ?_
  refine zv_getf hB zd36_82 rfl rfl (fun _ _ => ?_)
  refine zv_zeq hB zd36_85 rfl (fun hc10 => ?_) (fun hc10 => ?_)
  · rw [if_pos hc10] at h
    refine zv_ald hB zd36_95 rfl rfl rfl ?_
    refine zv_getq hB zd36_96 rfl rfl rfl ?_
    refine zv_getf hB zd36_99 rfl rfl (fun _ _ => ?_)
    have hw := Option.some.inj h
    subst hw
    exact hret _ _ _ _ _ zd36_102 (by trivial) ⟨rfl, rfl, rfl⟩
  · rw [if_neg hc10] at h
    refine zv_ald hB zd36_88 rfl rfl rfl ?_
    refine zv_getf hB zd36_89 rfl rfl (fun _ _ => ?_)
    refine zv_goto hB zd36_92 rfl ?_
    have hw := Option.some.inj h
    subst hw
    exact hret _ _ _ _ _ zd36_102 (by trivial) ⟨rfl, rfl, rfl⟩
/-! X_law (I)I -/
-- names: 0 StarTales('arg', 0), 1 Tape(0, 0, 6), 2 LawReader(0, 0, 9), 3 Law(0, 0, 8), 4 (0, 220)(1, 3, 0), 5 (0, 200)(3, 4, 0), 6 (0, 200)(3, 4, 1), 7 (0, 14)(3, 4, 3), 8 (0, 14)(3, 4, 4), 9 (0, 14)(3, 4, 5), 10 (0, 14)(3, 4, 6), 11 Law(0, 0, 7)
-- fields: f0 = 1.size_, f1 = 0.spareLaw_, f2 = 2.length_, f3 = 2.at_, f4 = 2.fault_, f5 = 2.law_, f6 = 3.steps_, f7 = 3.clauses_, f8 = 3.tellsSeen_, f9 = 3.tellsLines_, f10 = 3.seenByPlace_, f11 = 3.linesByPlace_, f12 = 0.ruling_; arrays: g0 = 4, g1 = 5, g2 = 6, g3 = 7, g4 = 8, g5 = 9, g6 = 10; out: [('ret', None), ('f', 0), ('f', 2), ('f', 3), ('f', 4), ('f', 6), ('f', 7), ('f', 8), ('f', 9), ('f', 10), ('f', 11), ('g', 1), ('g', 2), ('g', 3), ('g', 4), ('g', 5), ('g', 6), ('r', 1), ('r', 12)]
abbrev zy_X_law : zNL := (12, [(0, 0), (1, 3), (2, 5), (3, 4), (11, 4)], [(1, 3, 1, 0), (0, 0, 8, 1), (2, 5, 1, 2), (2, 5, 2, 3), (2, 5, 3, 4), (2, 5, 4, 5), (3, 4, 2, 6), (3, 4, 7, 7), (3, 4, 8, 8), (3, 4, 9, 9), (3, 4, 10, 10), (3, 4, 11, 11), (0, 0, 7, 12)], [(0, 0, 6, 1), (0, 0, 9, 2), (2, 5, 0, 4), (3, 4, 0, 5), (3, 4, 1, 6), (3, 4, 3, 7), (3, 4, 4, 8), (3, 4, 5, 9), (3, 4, 6, 10)], [(4, 0, 220, 0), (5, 0, 200, 1), (6, 0, 200, 2), (7, 0, 14, 3), (8, 0, 14, 4), (9, 0, 14, 5), (10, 0, 14, 6)])
theorem zyw_X_law : zv_wf zy_X_law = true := by decide +kernel
theorem zye_X_law : zv_ek2 zy_X_law = true := by decide +kernel
def zf_X_law (x1 : Int) (f0 : Int) (f2 : Int) (f3 : Int) (f4 : Int) (f6 : Int) (f7 : Int) (f8 : Int) (f9 : Int) (f10 : Int) (f11 : Int) (g0 : (Int → Int)) (g1 : (Int → Int)) (g2 : (Int → Int)) (g3 : (Int → Int)) (g4 : (Int → Int)) (g5 : (Int → Int)) (g6 : (Int → Int)) : Option (Int × Int × Int × Int × Int × Int × Int × Int × Int × Int × Int × (Int → Int) × (Int → Int) × (Int → Int) × (Int → Int) × (Int → Int) × (Int → Int) × Nat × Nat) := (zf_X_isWithin x1 1 200).bind fun r1 => (if r1 = 0 then (some ((-1), f0, f2, f3, f4, f6, f7, f8, f9, f10, f11, g1, g2, g3, g4, g5, g6, 3, 11)) else ((zf_Tape_take x1 f0).bind fun r3 => (if r3.1 = 0 then (some ((-1), r3.2, f2, f3, f4, f6, f7, f8, f9, f10, f11, g1, g2, g3, g4, g5, g6, 3, 11)) else ((zf_LawReader_read x1 f2 f3 f4 f6 f7 f8 f9 f10 f11 g0 g1 g2 g3 g4 g5 g6).bind fun r5 => (if 0 < r5.1 then (some (r5.1, r3.2, r5.2.1, r5.2.2.1, r5.2.2.2.1, r5.2.2.2.2.1, r5.2.2.2.2.2.1, r5.2.2.2.2.2.2.1, r5.2.2.2.2.2.2.2.1, r5.2.2.2.2.2.2.2.2.1, r5.2.2.2.2.2.2.2.2.2.1, r5.2.2.2.2.2.2.2.2.2.2.1, r5.2.2.2.2.2.2.2.2.2.2.2.1, r5.2.2.2.2.2.2.2.2.2.2.2.2.1, r5.2.2.2.2.2.2.2.2.2.2.2.2.2.1, r5.2.2.2.2.2.2.2.2.2.2.2.2.2.2.1, r5.2.2.2.2.2.2.2.2.2.2.2.2.2.2.2, 11, 3)) else (some (r5.1, r3.2, r5.2.1, r5.2.2.1, r5.2.2.2.1, r5.2.2.2.2.1, r5.2.2.2.2.2.1, r5.2.2.2.2.2.2.1, r5.2.2.2.2.2.2.2.1, r5.2.2.2.2.2.2.2.2.1, r5.2.2.2.2.2.2.2.2.2.1, r5.2.2.2.2.2.2.2.2.2.2.1, r5.2.2.2.2.2.2.2.2.2.2.2.1, r5.2.2.2.2.2.2.2.2.2.2.2.2.1, r5.2.2.2.2.2.2.2.2.2.2.2.2.2.1, r5.2.2.2.2.2.2.2.2.2.2.2.2.2.2.1, r5.2.2.2.2.2.2.2.2.2.2.2.2.2.2.2, 3, 11)))))))
theorem zd34_0 : decode zxm34.2.1 0 = .ok (.iload_n 1, 1) := by decide +kernel
theorem zd34_1 : decode zxm34.2.1 1 = .ok (.iconst 1, 1) := by decide +kernel
theorem zd34_2 : decode zxm34.2.1 2 = .ok (.sipush 200, 3) := by decide +kernel
theorem zd34_5 : decode zxm34.2.1 5 = .ok (.invokestatic 126, 3) := by decide +kernel
theorem zd34_8 : decode zxm34.2.1 8 = .ok (.ifCond .eq 14, 3) := by decide +kernel
theorem zd34_11 : decode zxm34.2.1 11 = .ok (.aload_n 0, 1) := by decide +kernel
theorem zd34_12 : decode zxm34.2.1 12 = .ok (.getfield 39, 3) := by decide +kernel
theorem zd34_15 : decode zxm34.2.1 15 = .ok (.iload_n 1, 1) := by decide +kernel
theorem zd34_16 : decode zxm34.2.1 16 = .ok (.invokevirtual 197, 3) := by decide +kernel
theorem zd34_19 : decode zxm34.2.1 19 = .ok (.ifCond .ne 5, 3) := by decide +kernel
theorem zd34_22 : decode zxm34.2.1 22 = .ok (.iconst (-1), 1) := by decide +kernel
theorem zd34_23 : decode zxm34.2.1 23 = .ok (.ireturn, 1) := by decide +kernel
theorem zd34_24 : decode zxm34.2.1 24 = .ok (.aload_n 0, 1) := by decide +kernel
theorem zd34_25 : decode zxm34.2.1 25 = .ok (.getfield 62, 3) := by decide +kernel
theorem zd34_28 : decode zxm34.2.1 28 = .ok (.iload_n 1, 1) := by decide +kernel
theorem zd34_29 : decode zxm34.2.1 29 = .ok (.aload_n 0, 1) := by decide +kernel
theorem zd34_30 : decode zxm34.2.1 30 = .ok (.getfield 50, 3) := by decide +kernel
theorem zd34_33 : decode zxm34.2.1 33 = .ok (.invokevirtual 200, 3) := by decide +kernel
theorem zd34_36 : decode zxm34.2.1 36 = .ok (.istore_n 2, 1) := by decide +kernel
theorem zd34_37 : decode zxm34.2.1 37 = .ok (.iload_n 2, 1) := by decide +kernel
theorem zd34_38 : decode zxm34.2.1 38 = .ok (.ifCond .le 21, 3) := by decide +kernel
theorem zd34_41 : decode zxm34.2.1 41 = .ok (.aload_n 0, 1) := by decide +kernel
theorem zd34_42 : decode zxm34.2.1 42 = .ok (.getfield 46, 3) := by decide +kernel
theorem zd34_45 : decode zxm34.2.1 45 = .ok (.astore_n 3, 1) := by decide +kernel
theorem zd34_46 : decode zxm34.2.1 46 = .ok (.aload_n 0, 1) := by decide +kernel
theorem zd34_47 : decode zxm34.2.1 47 = .ok (.aload_n 0, 1) := by decide +kernel
theorem zd34_48 : decode zxm34.2.1 48 = .ok (.getfield 50, 3) := by decide +kernel
theorem zd34_51 : decode zxm34.2.1 51 = .ok (.putfield 46, 3) := by decide +kernel
theorem zd34_54 : decode zxm34.2.1 54 = .ok (.aload_n 0, 1) := by decide +kernel
theorem zd34_55 : decode zxm34.2.1 55 = .ok (.aload_n 3, 1) := by decide +kernel
theorem zd34_56 : decode zxm34.2.1 56 = .ok (.putfield 50, 3) := by decide +kernel
theorem zd34_59 : decode zxm34.2.1 59 = .ok (.iload_n 2, 1) := by decide +kernel
theorem zd34_60 : decode zxm34.2.1 60 = .ok (.ireturn, 1) := by decide +kernel
theorem zt_X_law {x1 : Int} {f0 : Int} {f2 : Int} {f3 : Int} {f4 : Int} {f6 : Int} {f7 : Int} {f8 : Int} {f9 : Int} {f10 : Int} {f11 : Int} {g0 : (Int → Int)} {g1 : (Int → Int)} {g2 : (Int → Int)} {g3 : (Int → Int)} {g4 : (Int → Int)} {g5 : (Int → Int)} {g6 : (Int → Int)} {o : Int × Int × Int × Int × Int × Int × Int × Int × Int × Int × Int × (Int → Int) × (Int → Int) × (Int → Int) × (Int → Int) × (Int → Int) × (Int → Int) × Nat × Nat} (h : zf_X_law x1 f0 f2 f3 f4 f6 f7 f8 f9 f10 f11 g0 g1 g2 g3 g4 g5 g6 = some o) : zv_Fn z_TB z_cl z_KX zy_X_law zxm34 (81, 4860) [.inr 0, .inl x1] [.inl f0, .inr 3, .inl f2, .inl f3, .inl f4, .inr 1000, .inl f6, .inl f7, .inl f8, .inl f9, .inl f10, .inl f11, .inr 11] [g0, g1, g2, g3, g4, g5, g6] (some o.1) [.inl o.2.1, .inr o.2.2.2.2.2.2.2.2.2.2.2.2.2.2.2.2.2.1, .inl o.2.2.1, .inl o.2.2.2.1, .inl o.2.2.2.2.1, .inr 1000, .inl o.2.2.2.2.2.1, .inl o.2.2.2.2.2.2.1, .inl o.2.2.2.2.2.2.2.1, .inl o.2.2.2.2.2.2.2.2.1, .inl o.2.2.2.2.2.2.2.2.2.1, .inl o.2.2.2.2.2.2.2.2.2.2.1, .inr o.2.2.2.2.2.2.2.2.2.2.2.2.2.2.2.2.2.2] [g0, o.2.2.2.2.2.2.2.2.2.2.2.1, o.2.2.2.2.2.2.2.2.2.2.2.2.1, o.2.2.2.2.2.2.2.2.2.2.2.2.2.1, o.2.2.2.2.2.2.2.2.2.2.2.2.2.2.1, o.2.2.2.2.2.2.2.2.2.2.2.2.2.2.2.1, o.2.2.2.2.2.2.2.2.2.2.2.2.2.2.2.2.1] := zv_meth (K := (z_KF0, z_KC0, z_KL0, z_KT0, [], [], [], none)) (FT := z_FT) (MT := z_MT) (n := 2) zxp34 (z_ks0 _ (fun _ h => List.mem_cons_of_mem _ h) _ _ _ _ (fun j r h _ => by cases h)) (fun _ _ => zs_KX_p) zyw_X_law (fun va F G h => by obtain ⟨rfl, _⟩ := h; rfl) (fun va F G h => by obtain ⟨rfl, _⟩ := h; rfl) rfl fun good va F G hB hret hvret hP => by
  obtain ⟨rfl, rfl, rfl⟩ := hP
  unfold zf_X_law at h
  refine zv_ild hB zd34_0 rfl rfl ?_
  refine zv_con hB zd34_1 rfl ?_
  refine zv_con hB zd34_2 rfl ?_
  obtain ⟨r1, hr1, h⟩ := zi_bind h
  refine zv_cs hB (zv_emq (va2 := [.inl x1, .inl 1, .inl 200]) (F := [.inl f0, .inr 3, .inl f2, .inl f3, .inl f4, .inr 1000, .inl f6, .inl f7, .inl f8, .inl f9, .inl f10, .inl f11, .inr 11]) (F' := [.inl f0, .inr 3, .inl f2, .inl f3, .inl f4, .inr 1000, .inl f6, .inl f7, .inl f8, .inl f9, .inl f10, .inl f11, .inr 11]) (G := [g0, g1, g2, g3, g4, g5, g6]) (G' := [g0, g1, g2, g3, g4, g5, g6]) (ρ := []) (φ := []) (ψ := []) [none, none, none, none, none, none, none, none, none, none, none, none, none] [none, none, none, none, none, none, none] zyw_X_isWithin zyw_X_law zye_X_law (by decide +kernel) (zt_X_isWithin hr1) trivial trivial rfl rfl rfl rfl rfl rfl rfl) zd34_5 zxt15 rfl (by decide) (by decide) rfl ?_
  refine zv_zeq hB zd34_8 rfl (fun hc2 => ?_) (fun hc2 => ?_)
  · rw [if_pos hc2] at h
    refine zv_con hB zd34_22 rfl ?_
    have hw := Option.some.inj h
    subst hw
    exact hret _ _ _ _ _ zd34_23 (by trivial) ⟨rfl, rfl, rfl⟩
  · rw [if_neg hc2] at h
    refine zv_ald hB zd34_11 rfl rfl rfl ?_
    refine zv_getr hB zd34_12 rfl ?_
    refine zv_ild hB zd34_15 rfl rfl ?_
    obtain ⟨r3, hr3, h⟩ := zi_bind h
    refine zv_cv hB (zv_emq (va2 := [.inr 1, .inl x1]) (F := [.inl f0, .inr 3, .inl f2, .inl f3, .inl f4, .inr 1000, .inl f6, .inl f7, .inl f8, .inl f9, .inl f10, .inl f11, .inr 11]) (F' := [.inl r3.2, .inr 3, .inl f2, .inl f3, .inl f4, .inr 1000, .inl f6, .inl f7, .inl f8, .inl f9, .inl f10, .inl f11, .inr 11]) (G := [g0, g1, g2, g3, g4, g5, g6]) (G' := [g0, g1, g2, g3, g4, g5, g6]) (ρ := [1]) (φ := [0]) (ψ := []) [some 0, none, none, none, none, none, none, none, none, none, none, none, none] [none, none, none, none, none, none, none] zyw_Tape_take zyw_X_law zye_X_law (by decide +kernel) (zt_Tape_take hr3) ⟨⟨_, rfl, fun _ => rfl⟩, trivial⟩ trivial rfl rfl rfl rfl rfl rfl rfl) zd34_16 zxt35 rfl (by decide) (by decide) rfl ?_
    refine zv_zne hB zd34_19 rfl (fun hc4 => ?_) (fun hc4 => ?_)
    · rw [if_neg hc4] at h
      refine zv_ald hB zd34_24 rfl rfl rfl ?_
      refine zv_getr hB zd34_25 rfl ?_
      refine zv_ild hB zd34_28 rfl rfl ?_
      refine zv_ald hB zd34_29 rfl rfl rfl ?_
      refine zv_getq hB zd34_30 rfl rfl rfl ?_
      obtain ⟨r5, hr5, h⟩ := zi_bind h
      refine zv_cv hB (zv_emq (va2 := [.inr 2, .inl x1, .inr 3]) (F := [.inl r3.2, .inr 3, .inl f2, .inl f3, .inl f4, .inr 1000, .inl f6, .inl f7, .inl f8, .inl f9, .inl f10, .inl f11, .inr 11]) (F' := [.inl r3.2, .inr 3, .inl r5.2.1, .inl r5.2.2.1, .inl r5.2.2.2.1, .inr 3, .inl r5.2.2.2.2.1, .inl r5.2.2.2.2.2.1, .inl r5.2.2.2.2.2.2.1, .inl r5.2.2.2.2.2.2.2.1, .inl r5.2.2.2.2.2.2.2.2.1, .inl r5.2.2.2.2.2.2.2.2.2.1, .inr 11]) (G := [g0, g1, g2, g3, g4, g5, g6]) (G' := [g0, r5.2.2.2.2.2.2.2.2.2.2.1, r5.2.2.2.2.2.2.2.2.2.2.2.1, r5.2.2.2.2.2.2.2.2.2.2.2.2.1, r5.2.2.2.2.2.2.2.2.2.2.2.2.2.1, r5.2.2.2.2.2.2.2.2.2.2.2.2.2.2.1, r5.2.2.2.2.2.2.2.2.2.2.2.2.2.2.2]) (ρ := [2, 3, 4, 5, 6, 7, 8, 9, 10]) (φ := [2, 3, 4, 5, 6, 7, 8, 9, 10, 11]) (ψ := [0, 1, 2, 3, 4, 5, 6]) [none, none, some 0, some 1, some 2, some 3, some 4, some 5, some 6, some 7, some 8, some 9, none] [some 0, some 1, some 2, some 3, some 4, some 5, some 6] zyw_LawReader_read zyw_X_law zye_X_law (by decide +kernel) (zt_LawReader_read hr5) ⟨⟨_, rfl, fun _ => rfl⟩, ⟨_, rfl, fun _ => rfl⟩, ⟨_, rfl, fun _ => rfl⟩, ⟨_, rfl, fun (h : zv_is (.inr 1000)) => (Nat.lt_irrefl 1000 h).elim⟩, ⟨_, rfl, fun _ => rfl⟩, ⟨_, rfl, fun _ => rfl⟩, ⟨_, rfl, fun _ => rfl⟩, ⟨_, rfl, fun _ => rfl⟩, ⟨_, rfl, fun _ => rfl⟩, ⟨_, rfl, fun _ => rfl⟩, trivial⟩ ⟨rfl, rfl, rfl, rfl, rfl, rfl, rfl, trivial⟩ rfl rfl rfl rfl rfl rfl rfl) zd34_33 zxt36 rfl (by decide) (by decide) rfl ?_
      refine zv_ist hB zd34_36 rfl rfl rfl ?_
      refine zv_ild hB zd34_37 rfl rfl ?_
      refine zv_zle hB zd34_38 rfl (fun hc6 => ?_) (fun hc6 => ?_)
      · rw [if_neg (Int.not_lt.mpr hc6)] at h
        refine zv_ild hB zd34_59 rfl rfl ?_
        have hw := Option.some.inj h
        refine zv_wk hB (L' := [.inr 0, .inl x1, .inl r5.1, .inr 1000]) (F' := [.inl r3.2, .inr 3, .inl r5.2.1, .inl r5.2.2.1, .inl r5.2.2.2.1, .inr 1000, .inl r5.2.2.2.2.1, .inl r5.2.2.2.2.2.1, .inl r5.2.2.2.2.2.2.1, .inl r5.2.2.2.2.2.2.2.1, .inl r5.2.2.2.2.2.2.2.2.1, .inl r5.2.2.2.2.2.2.2.2.2.1, .inr 11]) ⟨fun _ => rfl, fun _ => rfl, fun _ => rfl, fun _ => rfl, trivial⟩ ⟨fun _ => rfl, fun _ => rfl, fun _ => rfl, fun _ => rfl, fun _ => rfl, fun (h : zv_is (.inr 1000)) => (Nat.lt_irrefl 1000 h).elim, fun _ => rfl, fun _ => rfl, fun _ => rfl, fun _ => rfl, fun _ => rfl, fun _ => rfl, fun _ => rfl, trivial⟩ ?_
        subst hw
        exact hret _ _ _ _ _ zd34_60 (by trivial) ⟨rfl, rfl, rfl⟩
      · rw [if_pos hc6] at h
        refine zv_ald hB zd34_41 rfl rfl rfl ?_
        refine zv_getq hB zd34_42 rfl rfl rfl ?_
        refine zv_ast hB zd34_45 rfl rfl rfl rfl ?_
        refine zv_ald hB zd34_46 rfl rfl rfl ?_
        refine zv_ald hB zd34_47 rfl rfl rfl ?_
        refine zv_getq hB zd34_48 rfl rfl rfl ?_
        refine zv_putq hB zd34_51 rfl rfl (by decide) rfl ?_
        refine zv_ald hB zd34_54 rfl rfl rfl ?_
        refine zv_ald hB zd34_55 rfl rfl rfl ?_
        refine zv_putq hB zd34_56 rfl rfl (by decide) rfl ?_
        refine zv_ild hB zd34_59 rfl rfl ?_
        have hw := Option.some.inj h
        refine zv_wk hB (L' := [.inr 0, .inl x1, .inl r5.1, .inr 11]) (F' := [.inl r3.2, .inr 11, .inl r5.2.1, .inl r5.2.2.1, .inl r5.2.2.2.1, .inr 1000, .inl r5.2.2.2.2.1, .inl r5.2.2.2.2.2.1, .inl r5.2.2.2.2.2.2.1, .inl r5.2.2.2.2.2.2.2.1, .inl r5.2.2.2.2.2.2.2.2.1, .inl r5.2.2.2.2.2.2.2.2.2.1, .inr 3]) ⟨fun _ => rfl, fun _ => rfl, fun _ => rfl, fun _ => rfl, trivial⟩ ⟨fun _ => rfl, fun _ => rfl, fun _ => rfl, fun _ => rfl, fun _ => rfl, fun (h : zv_is (.inr 1000)) => (Nat.lt_irrefl 1000 h).elim, fun _ => rfl, fun _ => rfl, fun _ => rfl, fun _ => rfl, fun _ => rfl, fun _ => rfl, fun _ => rfl, trivial⟩ ?_
        subst hw
        exact hret _ _ _ _ _ zd34_60 (by trivial) ⟨rfl, rfl, rfl⟩
    · rw [if_pos hc4] at h
      refine zv_con hB zd34_22 rfl ?_
      have hw := Option.some.inj h
      subst hw
      exact hret _ _ _ _ _ zd34_23 (by trivial) ⟨rfl, rfl, rfl⟩
/-! Arrays_fill_8 ([II)V -/
-- names: 0 (0, 8)('arg', 0)
-- fields: ; arrays: g0 = 0; out: [('g', 0)]
abbrev zy_Arrays_fill_8 : zNL := (1, [], [], [], [(0, 0, 8, 0)])
theorem zyw_Arrays_fill_8 : zv_wf zy_Arrays_fill_8 = true := by decide +kernel
theorem zye_Arrays_fill_8 : zv_ek2 zy_Arrays_fill_8 = true := by decide +kernel
def zf_Arrays_fill_8_l0_b (x1 : Int) (x3 : Int) (rec : Int → (Int → Int) → Option ((Int → Int))) (x2 : Int) (g0 : (Int → Int)) : Option ((Int → Int)) := if x2 < x3 then (cond (zi_ix x2 8) (rec (zi_w (x2 + 1)) (zv_up g0 x2 x1)) none) else (some g0)
def zf_Arrays_fill_8_l0 (x1 : Int) (x3 : Int) : Nat → Int → (Int → Int) → Option ((Int → Int))
  | 0, _, _ => none
  | n + 1, x2, g0 => zf_Arrays_fill_8_l0_b x1 x3 (zf_Arrays_fill_8_l0 x1 x3 n) x2 g0
def zf_Arrays_fill_8 (x1 : Int) (g0 : (Int → Int)) : Option ((Int → Int)) := (zf_Arrays_fill_8_l0 x1 8 zi_fu 0 g0).bind fun q3 => (some q3)
theorem zd78_0 : decode zxm78.2.1 0 = .ok (.iconst 0, 1) := by decide +kernel
theorem zd78_1 : decode zxm78.2.1 1 = .ok (.istore_n 2, 1) := by decide +kernel
theorem zd78_2 : decode zxm78.2.1 2 = .ok (.aload_n 0, 1) := by decide +kernel
theorem zd78_3 : decode zxm78.2.1 3 = .ok (.arraylength, 1) := by decide +kernel
theorem zd78_4 : decode zxm78.2.1 4 = .ok (.istore_n 3, 1) := by decide +kernel
theorem zd78_5 : decode zxm78.2.1 5 = .ok (.iload_n 2, 1) := by decide +kernel
theorem zd78_6 : decode zxm78.2.1 6 = .ok (.iload_n 3, 1) := by decide +kernel
theorem zd78_7 : decode zxm78.2.1 7 = .ok (.if_icmp .ge 13, 3) := by decide +kernel
theorem zd78_10 : decode zxm78.2.1 10 = .ok (.aload_n 0, 1) := by decide +kernel
theorem zd78_11 : decode zxm78.2.1 11 = .ok (.iload_n 2, 1) := by decide +kernel
theorem zd78_12 : decode zxm78.2.1 12 = .ok (.iload_n 1, 1) := by decide +kernel
theorem zd78_13 : decode zxm78.2.1 13 = .ok (.iastore, 1) := by decide +kernel
theorem zd78_14 : decode zxm78.2.1 14 = .ok (.iinc 2 1, 3) := by decide +kernel
theorem zd78_17 : decode zxm78.2.1 17 = .ok (.goto (-12), 3) := by decide +kernel
theorem zd78_20 : decode zxm78.2.1 20 = .ok (.return_, 1) := by decide +kernel
theorem zt_Arrays_fill_8 {x1 : Int} {g0 : (Int → Int)} {o : (Int → Int)} (h : zf_Arrays_fill_8 x1 g0 = some o) : zv_Fn z_TB z_cl z_KX zy_Arrays_fill_8 zxm78 (0, 0) [.inr 0, .inl x1] [] [g0] none [] [o] := zv_meth (K := (z_KF20, z_KC20, z_KL20, z_KT20, [], [], [], none)) (FT := z_FT) (MT := z_MT) (n := 2) zxp78 (z_ks20 _ (fun _ h => List.mem_cons_of_mem _ h) _ _ _ _ (fun j r h _ => by cases h)) (fun _ _ => zs_KX_p) zyw_Arrays_fill_8 (fun va F G h => by obtain ⟨rfl, _⟩ := h; rfl) (fun va F G h => by obtain ⟨rfl, _⟩ := h; rfl) rfl fun good va F G hB hret hvret hP => by
  obtain ⟨rfl, rfl, rfl⟩ := hP
  have l0 : ∀ (n : Nat) (x1 : Int) (x2 : Int) (x3 : Int) (g0 : (Int → Int)) (q : (Int → Int)), zf_Arrays_fill_8_l0 x1 x3 n x2 g0 = some q → (good 20 [.inr 1000, .inr 1000, .inr 1000, .inr 1000] [] [] [q]) → good 5 [.inr 0, .inl x1, .inl x2, .inl x3] [] [] [g0] := by
    intro n
    induction n with
    | zero => intro x1 x2 x3 g0 q h; exact absurd (show none = some q from h) (fun h => by cases h)
    | succ n ih =>
      intro x1 x2 x3 g0 q h hK
      replace h : zf_Arrays_fill_8_l0_b x1 x3 (zf_Arrays_fill_8_l0 x1 x3 n) x2 g0 = some q := h
      unfold zf_Arrays_fill_8_l0_b at h
      refine zv_ild hB zd78_5 rfl rfl ?_
      refine zv_ild hB zd78_6 rfl rfl ?_
      refine zv_cge hB zd78_7 rfl (fun hc1 => ?_) (fun hc1 => ?_)
      · rw [if_neg (Int.not_lt.mpr hc1)] at h
        have hq := Option.some.inj h
        subst hq
        refine zv_wk hB (L' := [.inr 1000, .inr 1000, .inr 1000, .inr 1000]) (F' := []) ⟨fun (h : zv_is (.inr 1000)) => (Nat.lt_irrefl 1000 h).elim, fun (h : zv_is (.inr 1000)) => (Nat.lt_irrefl 1000 h).elim, fun (h : zv_is (.inr 1000)) => (Nat.lt_irrefl 1000 h).elim, fun (h : zv_is (.inr 1000)) => (Nat.lt_irrefl 1000 h).elim, trivial⟩ trivial ?_
        exact hK
      · rw [if_pos hc1] at h
        refine zv_ald hB zd78_10 rfl rfl rfl ?_
        refine zv_ild hB zd78_11 rfl rfl ?_
        refine zv_ild hB zd78_12 rfl rfl ?_
        obtain ⟨c2, h⟩ := zi_if h
        refine zv_iast hB zd78_13 rfl rfl (zi_ix_ok c2).1 (zi_ix_ok c2).2 ?_
        refine zv_iincw hB zd78_14 rfl rfl ?_
        refine zv_goto hB zd78_17 rfl ?_
        exact ih _ _ _ _ q h hK
  unfold zf_Arrays_fill_8 at h
  refine zv_con hB zd78_0 rfl ?_
  refine zv_ist hB zd78_1 rfl rfl rfl ?_
  refine zv_ald hB zd78_2 rfl rfl rfl ?_
  refine zv_alen (v := 8) hB zd78_3 rfl rfl rfl rfl ?_
  refine zv_ist hB zd78_4 rfl rfl rfl ?_
  obtain ⟨q3, hq3, h⟩ := zi_bind h
  refine l0 _ _ _ _ _ q3 hq3 ?_
  show good 20 [.inr 1000, .inr 1000, .inr 1000, .inr 1000] [] [] [q3]
  have hw := Option.some.inj h
  subst hw
  exact hvret _ _ _ _ zd78_20 trivial ⟨rfl, rfl, rfl⟩
/-! Tale_nameAt_220 ([III)I -/
-- names: 0 (0, 220)('arg', 0)
-- fields: ; arrays: g0 = 0; out: [('ret', None)]
abbrev zy_Tale_nameAt_220 : zNL := (1, [], [], [], [(0, 0, 220, 0)])
theorem zyw_Tale_nameAt_220 : zv_wf zy_Tale_nameAt_220 = true := by decide +kernel
theorem zye_Tale_nameAt_220 : zv_ek2 zy_Tale_nameAt_220 = true := by decide +kernel
def zf_Tale_nameAt_220 (x1 : Int) (x2 : Int) (g0 : (Int → Int)) : Option (Int) := if x2 < 0 then (some (-1)) else (if x2 < x1 then (if x2 < 220 then (cond (zi_ix x2 220) (if (g0 x2) < 65 then (some (-1)) else (if 72 < (g0 x2) then (some (-1)) else (some (zi_w ((g0 x2) - 65))))) none) else (some (-1))) else (some (-1)))
theorem zd79_0 : decode zxm79.2.1 0 = .ok (.iload_n 2, 1) := by decide +kernel
theorem zd79_1 : decode zxm79.2.1 1 = .ok (.ifCond .lt 34, 3) := by decide +kernel
theorem zd79_4 : decode zxm79.2.1 4 = .ok (.iload_n 2, 1) := by decide +kernel
theorem zd79_5 : decode zxm79.2.1 5 = .ok (.iload_n 1, 1) := by decide +kernel
theorem zd79_6 : decode zxm79.2.1 6 = .ok (.if_icmp .ge 29, 3) := by decide +kernel
theorem zd79_9 : decode zxm79.2.1 9 = .ok (.iload_n 2, 1) := by decide +kernel
theorem zd79_10 : decode zxm79.2.1 10 = .ok (.aload_n 0, 1) := by decide +kernel
theorem zd79_11 : decode zxm79.2.1 11 = .ok (.arraylength, 1) := by decide +kernel
theorem zd79_12 : decode zxm79.2.1 12 = .ok (.if_icmp .ge 23, 3) := by decide +kernel
theorem zd79_15 : decode zxm79.2.1 15 = .ok (.aload_n 0, 1) := by decide +kernel
theorem zd79_16 : decode zxm79.2.1 16 = .ok (.iload_n 2, 1) := by decide +kernel
theorem zd79_17 : decode zxm79.2.1 17 = .ok (.iaload, 1) := by decide +kernel
theorem zd79_18 : decode zxm79.2.1 18 = .ok (.bipush 65, 2) := by decide +kernel
theorem zd79_20 : decode zxm79.2.1 20 = .ok (.if_icmp .lt 15, 3) := by decide +kernel
theorem zd79_23 : decode zxm79.2.1 23 = .ok (.aload_n 0, 1) := by decide +kernel
theorem zd79_24 : decode zxm79.2.1 24 = .ok (.iload_n 2, 1) := by decide +kernel
theorem zd79_25 : decode zxm79.2.1 25 = .ok (.iaload, 1) := by decide +kernel
theorem zd79_26 : decode zxm79.2.1 26 = .ok (.bipush 72, 2) := by decide +kernel
theorem zd79_28 : decode zxm79.2.1 28 = .ok (.if_icmp .gt 7, 3) := by decide +kernel
theorem zd79_31 : decode zxm79.2.1 31 = .ok (.iconst 1, 1) := by decide +kernel
theorem zd79_32 : decode zxm79.2.1 32 = .ok (.goto 4, 3) := by decide +kernel
theorem zd79_35 : decode zxm79.2.1 35 = .ok (.iconst 0, 1) := by decide +kernel
theorem zd79_36 : decode zxm79.2.1 36 = .ok (.istore_n 3, 1) := by decide +kernel
theorem zd79_37 : decode zxm79.2.1 37 = .ok (.iload_n 3, 1) := by decide +kernel
theorem zd79_38 : decode zxm79.2.1 38 = .ok (.ifCond .eq 12, 3) := by decide +kernel
theorem zd79_41 : decode zxm79.2.1 41 = .ok (.aload_n 0, 1) := by decide +kernel
theorem zd79_42 : decode zxm79.2.1 42 = .ok (.iload_n 2, 1) := by decide +kernel
theorem zd79_43 : decode zxm79.2.1 43 = .ok (.iaload, 1) := by decide +kernel
theorem zd79_44 : decode zxm79.2.1 44 = .ok (.bipush 65, 2) := by decide +kernel
theorem zd79_46 : decode zxm79.2.1 46 = .ok (.isub, 1) := by decide +kernel
theorem zd79_47 : decode zxm79.2.1 47 = .ok (.goto 4, 3) := by decide +kernel
theorem zd79_50 : decode zxm79.2.1 50 = .ok (.iconst (-1), 1) := by decide +kernel
theorem zd79_51 : decode zxm79.2.1 51 = .ok (.ireturn, 1) := by decide +kernel
theorem zt_Tale_nameAt_220 {x1 : Int} {x2 : Int} {g0 : (Int → Int)} {o : Int} (h : zf_Tale_nameAt_220 x1 x2 g0 = some o) : zv_Fn z_TB z_cl z_KX zy_Tale_nameAt_220 zxm79 (0, 0) [.inr 0, .inl x1, .inl x2] [] [g0] (some o) [] [g0] := zv_meth (K := (z_KF9, z_KC9, z_KL9, z_KT9, [], [], [], none)) (FT := z_FT) (MT := z_MT) (n := 3) zxp79 (z_ks9 _ (fun _ h => List.mem_cons_of_mem _ h) _ _ _ _ (fun j r h _ => by cases h)) (fun _ _ => zs_KX_p) zyw_Tale_nameAt_220 (fun va F G h => by obtain ⟨rfl, _⟩ := h; rfl) (fun va F G h => by obtain ⟨rfl, _⟩ := h; rfl) rfl fun good va F G hB hret hvret hP => by
  obtain ⟨rfl, rfl, rfl⟩ := hP
  unfold zf_Tale_nameAt_220 at h
  refine zv_ild hB zd79_0 rfl rfl ?_
  refine zv_zlt hB zd79_1 rfl (fun hc1 => ?_) (fun hc1 => ?_)
  · rw [if_pos hc1] at h
    refine zv_con hB zd79_35 rfl ?_
    refine zv_ist hB zd79_36 rfl rfl rfl ?_
    refine zv_ild hB zd79_37 rfl rfl ?_
    refine zv_zeq hB zd79_38 rfl (fun _ => ?_) (fun hc => absurd hc (by decide))
    refine zv_con hB zd79_50 rfl ?_
    have hw := Option.some.inj h
    subst hw
    exact hret _ _ _ _ _ zd79_51 (by trivial) ⟨rfl, rfl, rfl⟩
  · rw [if_neg (Int.not_lt.mpr hc1)] at h
    refine zv_ild hB zd79_4 rfl rfl ?_
    refine zv_ild hB zd79_5 rfl rfl ?_
    refine zv_cge hB zd79_6 rfl (fun hc3 => ?_) (fun hc3 => ?_)
    · rw [if_neg (Int.not_lt.mpr hc3)] at h
      refine zv_con hB zd79_35 rfl ?_
      refine zv_ist hB zd79_36 rfl rfl rfl ?_
      refine zv_ild hB zd79_37 rfl rfl ?_
      refine zv_zeq hB zd79_38 rfl (fun _ => ?_) (fun hc => absurd hc (by decide))
      refine zv_con hB zd79_50 rfl ?_
      have hw := Option.some.inj h
      subst hw
      exact hret _ _ _ _ _ zd79_51 (by trivial) ⟨rfl, rfl, rfl⟩
    · rw [if_pos hc3] at h
      refine zv_ild hB zd79_9 rfl rfl ?_
      refine zv_ald hB zd79_10 rfl rfl rfl ?_
      refine zv_alen (v := 220) hB zd79_11 rfl rfl rfl rfl ?_
      refine zv_cge hB zd79_12 rfl (fun hc5 => ?_) (fun hc5 => ?_)
      · rw [if_neg (Int.not_lt.mpr hc5)] at h
        refine zv_con hB zd79_35 rfl ?_
        refine zv_ist hB zd79_36 rfl rfl rfl ?_
        refine zv_ild hB zd79_37 rfl rfl ?_
        refine zv_zeq hB zd79_38 rfl (fun _ => ?_) (fun hc => absurd hc (by decide))
        refine zv_con hB zd79_50 rfl ?_
        have hw := Option.some.inj h
        subst hw
        exact hret _ _ _ _ _ zd79_51 (by trivial) ⟨rfl, rfl, rfl⟩
      · rw [if_pos hc5] at h
        refine zv_ald hB zd79_15 rfl rfl rfl ?_
        refine zv_ild hB zd79_16 rfl rfl ?_
        obtain ⟨c7, h⟩ := zi_if h
        refine zv_iald hB zd79_17 rfl rfl (zi_ix_ok c7).1 (zi_ix_ok c7).2 (fun _ _ => ?_)
        refine zv_con hB zd79_18 rfl ?_
        refine zv_clt hB zd79_20 rfl (fun hc8 => ?_) (fun hc8 => ?_)
        · rw [if_pos hc8] at h
          refine zv_con hB zd79_35 rfl ?_
          refine zv_ist hB zd79_36 rfl rfl rfl ?_
          refine zv_ild hB zd79_37 rfl rfl ?_
          refine zv_zeq hB zd79_38 rfl (fun _ => ?_) (fun hc => absurd hc (by decide))
          refine zv_con hB zd79_50 rfl ?_
          have hw := Option.some.inj h
          subst hw
          exact hret _ _ _ _ _ zd79_51 (by trivial) ⟨rfl, rfl, rfl⟩
        · rw [if_neg (Int.not_lt.mpr hc8)] at h
          refine zv_ald hB zd79_23 rfl rfl rfl ?_
          refine zv_ild hB zd79_24 rfl rfl ?_
          refine zv_iald hB zd79_25 rfl rfl (zi_ix_ok c7).1 (zi_ix_ok c7).2 (fun _ _ => ?_)
          refine zv_con hB zd79_26 rfl ?_
          refine zv_cgt hB zd79_28 rfl (fun hc10 => ?_) (fun hc10 => ?_)
          · rw [if_pos hc10] at h
            refine zv_con hB zd79_35 rfl ?_
            refine zv_ist hB zd79_36 rfl rfl rfl ?_
            refine zv_ild hB zd79_37 rfl rfl ?_
            refine zv_zeq hB zd79_38 rfl (fun _ => ?_) (fun hc => absurd hc (by decide))
            refine zv_con hB zd79_50 rfl ?_
            have hw := Option.some.inj h
            subst hw
            exact hret _ _ _ _ _ zd79_51 (by trivial) ⟨rfl, rfl, rfl⟩
          · rw [if_neg (Int.not_lt.mpr hc10)] at h
            refine zv_con hB zd79_31 rfl ?_
            refine zv_goto hB zd79_32 rfl ?_
            refine zv_ist hB zd79_36 rfl rfl rfl ?_
            refine zv_ild hB zd79_37 rfl rfl ?_
            refine zv_zeq hB zd79_38 rfl (fun hc => absurd hc (by decide)) (fun _ => ?_)
            refine zv_ald hB zd79_41 rfl rfl rfl ?_
            refine zv_ild hB zd79_42 rfl rfl ?_
            refine zv_iald hB zd79_43 rfl rfl (zi_ix_ok c7).1 (zi_ix_ok c7).2 (fun _ _ => ?_)
            refine zv_con hB zd79_44 rfl ?_
            refine zv_subw hB zd79_46 ?_
            refine zv_goto hB zd79_47 rfl ?_
            have hw := Option.some.inj h
            subst hw
            exact hret _ _ _ _ _ zd79_51 (by trivial) ⟨rfl, rfl, rfl⟩
/-! Tale_addLine (II)V -/
-- names: 0 Tale('arg', 0), 1 (0, 8)(0, 6, 2)
-- fields: f0 = 0.names_, f1 = 0.lines_; arrays: g0 = 1; out: [('f', 0), ('f', 1), ('g', 0)]
abbrev zy_Tale_addLine : zNL := (2, [(0, 6)], [(0, 6, 1, 0), (0, 6, 0, 1)], [(0, 6, 2, 1)], [(1, 0, 8, 0)])
theorem zyw_Tale_addLine : zv_wf zy_Tale_addLine = true := by decide +kernel
theorem zye_Tale_addLine : zv_ek2 zy_Tale_addLine = true := by decide +kernel
def zf_Tale_addLine (x1 : Int) (x2 : Int) (f0 : Int) (f1 : Int) (g0 : (Int → Int)) : Option (Int × Int × (Int → Int)) := cond (zi_ix x1 8) (cond (zi_ix x2 8) (some ((zi_or f0 (zi_or (zi_shl 1 x1) (zi_shl 1 x2))), (zi_w (f1 + 1)), (zv_up (zv_up g0 x1 (zi_or (g0 x1) (zi_shl 1 x2))) x2 (zi_or ((zv_up g0 x1 (zi_or (g0 x1) (zi_shl 1 x2))) x2) (zi_shl 1 x1))))) none) none
theorem zd80_0 : decode zxm80.2.1 0 = .ok (.aload_n 0, 1) := by decide +kernel
theorem zd80_1 : decode zxm80.2.1 1 = .ok (.getfield 18, 3) := by decide +kernel
theorem zd80_4 : decode zxm80.2.1 4 = .ok (.iload_n 1, 1) := by decide +kernel
theorem zd80_5 : decode zxm80.2.1 5 = .ok (.dup2, 1) := by decide +kernel
theorem zd80_6 : decode zxm80.2.1 6 = .ok (.iaload, 1) := by decide +kernel
theorem zd80_7 : decode zxm80.2.1 7 = .ok (.iconst 1, 1) := by decide +kernel
theorem zd80_8 : decode zxm80.2.1 8 = .ok (.iload_n 2, 1) := by decide +kernel
theorem zd80_9 : decode zxm80.2.1 9 = .ok (.ishl, 1) := by decide +kernel
theorem zd80_10 : decode zxm80.2.1 10 = .ok (.ior, 1) := by decide +kernel
theorem zd80_11 : decode zxm80.2.1 11 = .ok (.iastore, 1) := by decide +kernel
theorem zd80_12 : decode zxm80.2.1 12 = .ok (.aload_n 0, 1) := by decide +kernel
theorem zd80_13 : decode zxm80.2.1 13 = .ok (.getfield 18, 3) := by decide +kernel
theorem zd80_16 : decode zxm80.2.1 16 = .ok (.iload_n 2, 1) := by decide +kernel
theorem zd80_17 : decode zxm80.2.1 17 = .ok (.dup2, 1) := by decide +kernel
theorem zd80_18 : decode zxm80.2.1 18 = .ok (.iaload, 1) := by decide +kernel
theorem zd80_19 : decode zxm80.2.1 19 = .ok (.iconst 1, 1) := by decide +kernel
theorem zd80_20 : decode zxm80.2.1 20 = .ok (.iload_n 1, 1) := by decide +kernel
theorem zd80_21 : decode zxm80.2.1 21 = .ok (.ishl, 1) := by decide +kernel
theorem zd80_22 : decode zxm80.2.1 22 = .ok (.ior, 1) := by decide +kernel
theorem zd80_23 : decode zxm80.2.1 23 = .ok (.iastore, 1) := by decide +kernel
theorem zd80_24 : decode zxm80.2.1 24 = .ok (.aload_n 0, 1) := by decide +kernel
theorem zd80_25 : decode zxm80.2.1 25 = .ok (.dup, 1) := by decide +kernel
theorem zd80_26 : decode zxm80.2.1 26 = .ok (.getfield 15, 3) := by decide +kernel
theorem zd80_29 : decode zxm80.2.1 29 = .ok (.iconst 1, 1) := by decide +kernel
theorem zd80_30 : decode zxm80.2.1 30 = .ok (.iload_n 1, 1) := by decide +kernel
theorem zd80_31 : decode zxm80.2.1 31 = .ok (.ishl, 1) := by decide +kernel
theorem zd80_32 : decode zxm80.2.1 32 = .ok (.iconst 1, 1) := by decide +kernel
theorem zd80_33 : decode zxm80.2.1 33 = .ok (.iload_n 2, 1) := by decide +kernel
theorem zd80_34 : decode zxm80.2.1 34 = .ok (.ishl, 1) := by decide +kernel
theorem zd80_35 : decode zxm80.2.1 35 = .ok (.ior, 1) := by decide +kernel
theorem zd80_36 : decode zxm80.2.1 36 = .ok (.ior, 1) := by decide +kernel
theorem zd80_37 : decode zxm80.2.1 37 = .ok (.putfield 15, 3) := by decide +kernel
theorem zd80_40 : decode zxm80.2.1 40 = .ok (.aload_n 0, 1) := by decide +kernel
theorem zd80_41 : decode zxm80.2.1 41 = .ok (.dup, 1) := by decide +kernel
theorem zd80_42 : decode zxm80.2.1 42 = .ok (.getfield 9, 3) := by decide +kernel
theorem zd80_45 : decode zxm80.2.1 45 = .ok (.iconst 1, 1) := by decide +kernel
theorem zd80_46 : decode zxm80.2.1 46 = .ok (.iadd, 1) := by decide +kernel
theorem zd80_47 : decode zxm80.2.1 47 = .ok (.putfield 9, 3) := by decide +kernel
theorem zd80_50 : decode zxm80.2.1 50 = .ok (.return_, 1) := by decide +kernel
theorem zt_Tale_addLine {x1 : Int} {x2 : Int} {f0 : Int} {f1 : Int} {g0 : (Int → Int)} {o : Int × Int × (Int → Int)} (h : zf_Tale_addLine x1 x2 f0 f1 g0 = some o) : zv_Fn z_TB z_cl z_KX zy_Tale_addLine zxm80 (0, 0) [.inr 0, .inl x1, .inl x2] [.inl f0, .inl f1] [g0] none [.inl o.1, .inl o.2.1] [o.2.2] := zv_meth (K := (z_KF9, z_KC9, z_KL9, z_KT9, [], [], [], none)) (FT := z_FT) (MT := z_MT) (n := 3) zxp80 (z_ks9 _ (fun _ h => List.mem_cons_of_mem _ h) _ _ _ _ (fun j r h _ => by cases h)) (fun _ _ => zs_KX_p) zyw_Tale_addLine (fun va F G h => by obtain ⟨rfl, _⟩ := h; rfl) (fun va F G h => by obtain ⟨rfl, _⟩ := h; rfl) rfl fun good va F G hB hret hvret hP => by
  obtain ⟨rfl, rfl, rfl⟩ := hP
  unfold zf_Tale_addLine at h
  refine zv_ald hB zd80_0 rfl rfl rfl ?_
  refine zv_getr hB zd80_1 rfl ?_
  refine zv_ild hB zd80_4 rfl rfl ?_
  refine zv_dup2 hB zd80_5 rfl rfl ?_
  obtain ⟨c1, h⟩ := zi_if h
  refine zv_iald hB zd80_6 rfl rfl (zi_ix_ok c1).1 (zi_ix_ok c1).2 (fun _ _ => ?_)
  refine zv_con hB zd80_7 rfl ?_
  refine zv_ild hB zd80_8 rfl rfl ?_
  refine zv_shlw hB zd80_9 ?_
  refine zv_orw hB zd80_10 ?_
  refine zv_iast hB zd80_11 rfl rfl (zi_ix_ok c1).1 (zi_ix_ok c1).2 ?_
  refine zv_ald hB zd80_12 rfl rfl rfl ?_
  refine zv_getr hB zd80_13 rfl ?_
  refine zv_ild hB zd80_16 rfl rfl ?_
  refine zv_dup2 hB zd80_17 rfl rfl ?_
  obtain ⟨c2, h⟩ := zi_if h
  refine zv_iald hB zd80_18 rfl rfl (zi_ix_ok c2).1 (zi_ix_ok c2).2 (fun _ _ => ?_)
  refine zv_con hB zd80_19 rfl ?_
  refine zv_ild hB zd80_20 rfl rfl ?_
  refine zv_shlw hB zd80_21 ?_
  refine zv_orw hB zd80_22 ?_
  refine zv_iast hB zd80_23 rfl rfl (zi_ix_ok c2).1 (zi_ix_ok c2).2 ?_
  refine zv_ald hB zd80_24 rfl rfl rfl ?_
  refine zv_dup hB zd80_25 rfl ?_
  refine zv_getf hB zd80_26 rfl rfl (fun _ _ => ?_)
  refine zv_con hB zd80_29 rfl ?_
  refine zv_ild hB zd80_30 rfl rfl ?_
  refine zv_shlw hB zd80_31 ?_
  refine zv_con hB zd80_32 rfl ?_
  refine zv_ild hB zd80_33 rfl rfl ?_
  refine zv_shlw hB zd80_34 ?_
  refine zv_orw hB zd80_35 ?_
  refine zv_orw hB zd80_36 ?_
  refine zv_putf hB zd80_37 rfl rfl (fun h => by cases h) rfl ?_
  refine zv_ald hB zd80_40 rfl rfl rfl ?_
  refine zv_dup hB zd80_41 rfl ?_
  refine zv_getf hB zd80_42 rfl rfl (fun _ _ => ?_)
  refine zv_con hB zd80_45 rfl ?_
  refine zv_addw hB zd80_46 ?_
  refine zv_putf hB zd80_47 rfl rfl (fun h => by cases h) rfl ?_
  have hw := Option.some.inj h
  subst hw
  exact hvret _ _ _ _ zd80_50 trivial ⟨rfl, rfl, rfl⟩
end
section
/-! Methods as functions, and that they do what these do. -/
/-! Tale_read_220 ([II)I -/
-- names: 0 Tale('arg', 0), 1 (0, 220)('arg', 1), 2 (0, 8)(0, 6, 2)
-- fields: f0 = 0.lines_, f1 = 0.names_; arrays: g0 = 1, g1 = 2; out: [('ret', None), ('f', 0), ('f', 1), ('g', 1)]
abbrev zy_Tale_read_220 : zNL := (3, [(0, 6)], [(0, 6, 0, 0), (0, 6, 1, 1)], [(0, 6, 2, 2)], [(1, 0, 220, 0), (2, 0, 8, 1)])
theorem zyw_Tale_read_220 : zv_wf zy_Tale_read_220 = true := by decide +kernel
theorem zye_Tale_read_220 : zv_ek2 zy_Tale_read_220 = true := by decide +kernel
def zf_Tale_read_220_l0_b (x2 : Int) (g0 : (Int → Int)) (rec : Int → Int → Int → (Int → Int) → Option (((Int × Int × Int × (Int → Int)) ⊕ (Int × Int × Int × (Int → Int))))) (x3 : Int) (f0 : Int) (f1 : Int) (g1 : (Int → Int)) : Option (((Int × Int × Int × (Int → Int)) ⊕ (Int × Int × Int × (Int → Int)))) := if x3 < x2 then (if 12 < f0 then (some (.inl (x3, f0, f1, g1))) else ((zf_Tale_nameAt_220 x2 x3 g0).bind fun r4 => (if r4 = (-1) then ((zf_X_faultAt 1 x3).bind fun r21 => (some (.inr (r21, f0, f1, g1)))) else (if f0 = 12 then ((zf_X_faultAt 4 x3).bind fun r20 => (some (.inr (r20, f0, f1, g1)))) else ((zf_Tale_nameAt_220 x2 (zi_w (x3 + 1)) g0).bind fun r7 => (if r7 = (-1) then ((zf_X_faultAt 1 (zi_w (x3 + 1))).bind fun r19 => (some (.inr (r19, f0, f1, g1)))) else (if r7 = r4 then ((zf_X_faultAt 3 (zi_w (x3 + 1))).bind fun r18 => (some (.inr (r18, f0, f1, g1)))) else (cond (zi_ix r4 8) (if (zi_and (zi_shr (g1 r4) r7) 1) = 0 then ((zf_Tale_addLine r4 r7 f1 f0 g1).bind fun r12 => (if (zi_w (x3 + 2)) = x2 then (some (.inr (r12.2.1, r12.2.1, r12.1, r12.2.2))) else (cond (zi_ix (zi_w (x3 + 2)) 220) (if (g0 (zi_w (x3 + 2))) = 59 then (rec (zi_w ((zi_w (x3 + 2)) + 1)) r12.2.1 r12.1 r12.2.2) else ((zf_X_faultAt 1 (zi_w (x3 + 2))).bind fun r16 => (some (.inr (r16, r12.2.1, r12.1, r12.2.2))))) none))) else ((zf_X_faultAt 6 x3).bind fun r17 => (some (.inr (r17, f0, f1, g1))))) none)))))))) else (some (.inl (x3, f0, f1, g1)))
def zf_Tale_read_220_l0 (x2 : Int) (g0 : (Int → Int)) : Nat → Int → Int → Int → (Int → Int) → Option (((Int × Int × Int × (Int → Int)) ⊕ (Int × Int × Int × (Int → Int))))
  | 0, _, _, _, _ => none
  | n + 1, x3, f0, f1, g1 => zf_Tale_read_220_l0_b x2 g0 (zf_Tale_read_220_l0 x2 g0 n) x3 f0 f1 g1
def zf_Tale_read_220 (x2 : Int) (f0 : Int) (f1 : Int) (g0 : (Int → Int)) (g1 : (Int → Int)) : Option (Int × Int × Int × (Int → Int)) := (zf_Arrays_fill_8 0 g1).bind fun r1 => ((zf_Tale_read_220_l0 x2 g0 zi_fu 0 0 0 r1).bind fun q22 => Sum.elim (fun e23 => ((zf_X_faultAt 1 e23.1).bind fun r24 => (some (r24, e23.2.1, e23.2.2.1, e23.2.2.2)))) (fun w25 => some w25) q22)
theorem zd77_0 : decode zxm77.2.1 0 = .ok (.aload_n 0, 1) := by decide +kernel
theorem zd77_1 : decode zxm77.2.1 1 = .ok (.iconst 0, 1) := by decide +kernel
theorem zd77_2 : decode zxm77.2.1 2 = .ok (.putfield 9, 3) := by decide +kernel
theorem zd77_5 : decode zxm77.2.1 5 = .ok (.aload_n 0, 1) := by decide +kernel
theorem zd77_6 : decode zxm77.2.1 6 = .ok (.iconst 0, 1) := by decide +kernel
theorem zd77_7 : decode zxm77.2.1 7 = .ok (.putfield 15, 3) := by decide +kernel
theorem zd77_10 : decode zxm77.2.1 10 = .ok (.aload_n 0, 1) := by decide +kernel
theorem zd77_11 : decode zxm77.2.1 11 = .ok (.getfield 18, 3) := by decide +kernel
theorem zd77_14 : decode zxm77.2.1 14 = .ok (.iconst 0, 1) := by decide +kernel
theorem zd77_15 : decode zxm77.2.1 15 = .ok (.invokestatic 22, 3) := by decide +kernel
theorem zd77_18 : decode zxm77.2.1 18 = .ok (.iconst 0, 1) := by decide +kernel
theorem zd77_19 : decode zxm77.2.1 19 = .ok (.istore_n 3, 1) := by decide +kernel
theorem zd77_20 : decode zxm77.2.1 20 = .ok (.iload_n 3, 1) := by decide +kernel
theorem zd77_21 : decode zxm77.2.1 21 = .ok (.iload_n 2, 1) := by decide +kernel
theorem zd77_22 : decode zxm77.2.1 22 = .ok (.if_icmp .ge 149, 3) := by decide +kernel
theorem zd77_25 : decode zxm77.2.1 25 = .ok (.aload_n 0, 1) := by decide +kernel
theorem zd77_26 : decode zxm77.2.1 26 = .ok (.getfield 9, 3) := by decide +kernel
theorem zd77_29 : decode zxm77.2.1 29 = .ok (.bipush 12, 2) := by decide +kernel
theorem zd77_31 : decode zxm77.2.1 31 = .ok (.if_icmp .gt 140, 3) := by decide +kernel
theorem zd77_34 : decode zxm77.2.1 34 = .ok (.aload_n 1, 1) := by decide +kernel
theorem zd77_35 : decode zxm77.2.1 35 = .ok (.iload_n 2, 1) := by decide +kernel
theorem zd77_36 : decode zxm77.2.1 36 = .ok (.iload_n 3, 1) := by decide +kernel
theorem zd77_37 : decode zxm77.2.1 37 = .ok (.invokestatic 28, 3) := by decide +kernel
theorem zd77_40 : decode zxm77.2.1 40 = .ok (.istore 4, 2) := by decide +kernel
theorem zd77_42 : decode zxm77.2.1 42 = .ok (.iload 4, 2) := by decide +kernel
theorem zd77_44 : decode zxm77.2.1 44 = .ok (.iconst (-1), 1) := by decide +kernel
theorem zd77_45 : decode zxm77.2.1 45 = .ok (.if_icmp .ne 9, 3) := by decide +kernel
theorem zd77_48 : decode zxm77.2.1 48 = .ok (.iconst 1, 1) := by decide +kernel
theorem zd77_49 : decode zxm77.2.1 49 = .ok (.iload_n 3, 1) := by decide +kernel
theorem zd77_50 : decode zxm77.2.1 50 = .ok (.invokestatic 32, 3) := by decide +kernel
theorem zd77_53 : decode zxm77.2.1 53 = .ok (.ireturn, 1) := by decide +kernel
theorem zd77_54 : decode zxm77.2.1 54 = .ok (.aload_n 0, 1) := by decide +kernel
theorem zd77_55 : decode zxm77.2.1 55 = .ok (.getfield 9, 3) := by decide +kernel
theorem zd77_58 : decode zxm77.2.1 58 = .ok (.bipush 12, 2) := by decide +kernel
theorem zd77_60 : decode zxm77.2.1 60 = .ok (.if_icmp .ne 9, 3) := by decide +kernel
theorem zd77_63 : decode zxm77.2.1 63 = .ok (.iconst 4, 1) := by decide +kernel
theorem zd77_64 : decode zxm77.2.1 64 = .ok (.iload_n 3, 1) := by decide +kernel
theorem zd77_65 : decode zxm77.2.1 65 = .ok (.invokestatic 32, 3) := by decide +kernel
theorem zd77_68 : decode zxm77.2.1 68 = .ok (.ireturn, 1) := by decide +kernel
theorem zd77_69 : decode zxm77.2.1 69 = .ok (.aload_n 1, 1) := by decide +kernel
theorem zd77_70 : decode zxm77.2.1 70 = .ok (.iload_n 2, 1) := by decide +kernel
theorem zd77_71 : decode zxm77.2.1 71 = .ok (.iload_n 3, 1) := by decide +kernel
theorem zd77_72 : decode zxm77.2.1 72 = .ok (.iconst 1, 1) := by decide +kernel
theorem zd77_73 : decode zxm77.2.1 73 = .ok (.iadd, 1) := by decide +kernel
theorem zd77_74 : decode zxm77.2.1 74 = .ok (.invokestatic 28, 3) := by decide +kernel
theorem zd77_77 : decode zxm77.2.1 77 = .ok (.istore 5, 2) := by decide +kernel
theorem zd77_79 : decode zxm77.2.1 79 = .ok (.iload 5, 2) := by decide +kernel
theorem zd77_81 : decode zxm77.2.1 81 = .ok (.iconst (-1), 1) := by decide +kernel
theorem zd77_82 : decode zxm77.2.1 82 = .ok (.if_icmp .ne 11, 3) := by decide +kernel
theorem zd77_85 : decode zxm77.2.1 85 = .ok (.iconst 1, 1) := by decide +kernel
theorem zd77_86 : decode zxm77.2.1 86 = .ok (.iload_n 3, 1) := by decide +kernel
theorem zd77_87 : decode zxm77.2.1 87 = .ok (.iconst 1, 1) := by decide +kernel
theorem zd77_88 : decode zxm77.2.1 88 = .ok (.iadd, 1) := by decide +kernel
theorem zd77_89 : decode zxm77.2.1 89 = .ok (.invokestatic 32, 3) := by decide +kernel
theorem zd77_92 : decode zxm77.2.1 92 = .ok (.ireturn, 1) := by decide +kernel
theorem zd77_93 : decode zxm77.2.1 93 = .ok (.iload 5, 2) := by decide +kernel
theorem zd77_95 : decode zxm77.2.1 95 = .ok (.iload 4, 2) := by decide +kernel
theorem zd77_97 : decode zxm77.2.1 97 = .ok (.if_icmp .ne 11, 3) := by decide +kernel
theorem zd77_100 : decode zxm77.2.1 100 = .ok (.iconst 3, 1) := by decide +kernel
theorem zd77_101 : decode zxm77.2.1 101 = .ok (.iload_n 3, 1) := by decide +kernel
theorem zd77_102 : decode zxm77.2.1 102 = .ok (.iconst 1, 1) := by decide +kernel
theorem zd77_103 : decode zxm77.2.1 103 = .ok (.iadd, 1) := by decide +kernel
theorem zd77_104 : decode zxm77.2.1 104 = .ok (.invokestatic 32, 3) := by decide +kernel
theorem zd77_107 : decode zxm77.2.1 107 = .ok (.ireturn, 1) := by decide +kernel
theorem zd77_108 : decode zxm77.2.1 108 = .ok (.aload_n 0, 1) := by decide +kernel
theorem zd77_109 : decode zxm77.2.1 109 = .ok (.getfield 18, 3) := by decide +kernel
theorem zd77_112 : decode zxm77.2.1 112 = .ok (.iload 4, 2) := by decide +kernel
theorem zd77_114 : decode zxm77.2.1 114 = .ok (.iaload, 1) := by decide +kernel
theorem zd77_115 : decode zxm77.2.1 115 = .ok (.iload 5, 2) := by decide +kernel
theorem zd77_117 : decode zxm77.2.1 117 = .ok (.ishr, 1) := by decide +kernel
theorem zd77_118 : decode zxm77.2.1 118 = .ok (.iconst 1, 1) := by decide +kernel
theorem zd77_119 : decode zxm77.2.1 119 = .ok (.iand, 1) := by decide +kernel
theorem zd77_120 : decode zxm77.2.1 120 = .ok (.ifCond .eq 10, 3) := by decide +kernel
theorem zd77_123 : decode zxm77.2.1 123 = .ok (.bipush 6, 2) := by decide +kernel
theorem zd77_125 : decode zxm77.2.1 125 = .ok (.iload_n 3, 1) := by decide +kernel
theorem zd77_126 : decode zxm77.2.1 126 = .ok (.invokestatic 32, 3) := by decide +kernel
theorem zd77_129 : decode zxm77.2.1 129 = .ok (.ireturn, 1) := by decide +kernel
theorem zd77_130 : decode zxm77.2.1 130 = .ok (.aload_n 0, 1) := by decide +kernel
theorem zd77_131 : decode zxm77.2.1 131 = .ok (.iload 4, 2) := by decide +kernel
theorem zd77_133 : decode zxm77.2.1 133 = .ok (.iload 5, 2) := by decide +kernel
theorem zd77_135 : decode zxm77.2.1 135 = .ok (.invokevirtual 36, 3) := by decide +kernel
theorem zd77_138 : decode zxm77.2.1 138 = .ok (.iinc 3 2, 3) := by decide +kernel
theorem zd77_141 : decode zxm77.2.1 141 = .ok (.iload_n 3, 1) := by decide +kernel
theorem zd77_142 : decode zxm77.2.1 142 = .ok (.iload_n 2, 1) := by decide +kernel
theorem zd77_143 : decode zxm77.2.1 143 = .ok (.if_icmp .ne 8, 3) := by decide +kernel
theorem zd77_146 : decode zxm77.2.1 146 = .ok (.aload_n 0, 1) := by decide +kernel
theorem zd77_147 : decode zxm77.2.1 147 = .ok (.getfield 9, 3) := by decide +kernel
theorem zd77_150 : decode zxm77.2.1 150 = .ok (.ireturn, 1) := by decide +kernel
theorem zd77_151 : decode zxm77.2.1 151 = .ok (.aload_n 1, 1) := by decide +kernel
theorem zd77_152 : decode zxm77.2.1 152 = .ok (.iload_n 3, 1) := by decide +kernel
theorem zd77_153 : decode zxm77.2.1 153 = .ok (.iaload, 1) := by decide +kernel
theorem zd77_154 : decode zxm77.2.1 154 = .ok (.bipush 59, 2) := by decide +kernel
theorem zd77_156 : decode zxm77.2.1 156 = .ok (.if_icmp .eq 9, 3) := by decide +kernel
theorem zd77_159 : decode zxm77.2.1 159 = .ok (.iconst 1, 1) := by decide +kernel
theorem zd77_160 : decode zxm77.2.1 160 = .ok (.iload_n 3, 1) := by decide +kernel
theorem zd77_161 : decode zxm77.2.1 161 = .ok (.invokestatic 32, 3) := by decide +kernel
theorem zd77_164 : decode zxm77.2.1 164 = .ok (.ireturn, 1) := by decide +kernel
theorem zd77_165 : decode zxm77.2.1 165 = .ok (.iinc 3 1, 3) := by decide +kernel
theorem zd77_168 : decode zxm77.2.1 168 = .ok (.goto (-148), 3) := by decide +kernel
theorem zd77_171 : decode zxm77.2.1 171 = .ok (.iconst 1, 1) := by decide +kernel
theorem zd77_172 : decode zxm77.2.1 172 = .ok (.iload_n 3, 1) := by decide +kernel
theorem zd77_173 : decode zxm77.2.1 173 = .ok (.invokestatic 32, 3) := by decide +kernel
theorem zd77_176 : decode zxm77.2.1 176 = .ok (.ireturn, 1) := by decide +kernel
theorem zt_Tale_read_220 {x2 : Int} {f0 : Int} {f1 : Int} {g0 : (Int → Int)} {g1 : (Int → Int)} {o : Int × Int × Int × (Int → Int)} (h : zf_Tale_read_220 x2 f0 f1 g0 g1 = some o) : zv_Fn z_TB z_cl z_KX zy_Tale_read_220 zxm77 (1, 60) [.inr 0, .inr 1, .inl x2] [.inl f0, .inl f1] [g0, g1] (some o.1) [.inl o.2.1, .inl o.2.2.1] [g0, o.2.2.2] := zv_meth (K := (z_KF9, z_KC9, z_KL9, z_KT9, [], [], [], none)) (FT := z_FT) (MT := z_MT) (n := 3) zxp77 (z_ks9 _ (fun _ h => List.mem_cons_of_mem _ h) _ _ _ _ (fun j r h _ => by cases h)) (fun _ _ => zs_KX_p) zyw_Tale_read_220 (fun va F G h => by obtain ⟨rfl, _⟩ := h; rfl) (fun va F G h => by obtain ⟨rfl, _⟩ := h; rfl) rfl fun good va F G hB hret hvret hP => by
  obtain ⟨rfl, rfl, rfl⟩ := hP
  have l0 : ∀ (n : Nat) (x2 : Int) (x3 : Int) (f0 : Int) (f1 : Int) (g1 : (Int → Int)) (q : ((Int × Int × Int × (Int → Int)) ⊕ (Int × Int × Int × (Int → Int)))), zf_Tale_read_220_l0 x2 g0 n x3 f0 f1 g1 = some q → (Sum.elim (fun e : Int × Int × Int × (Int → Int) => good 171 [.inr 1000, .inr 1000, .inr 1000, .inl e.1, .inr 1000, .inr 1000] [] [.inl e.2.1, .inl e.2.2.1] [g0, e.2.2.2]) (fun w : Int × Int × Int × (Int → Int) => w = o) q) → good 20 [.inr 0, .inr 1, .inl x2, .inl x3, .inr 1000, .inr 1000] [] [.inl f0, .inl f1] [g0, g1] := by
    intro n
    induction n with
    | zero => intro x2 x3 f0 f1 g1 q h; exact absurd (show none = some q from h) (fun h => by cases h)
    | succ n ih =>
      intro x2 x3 f0 f1 g1 q h hK
      replace h : zf_Tale_read_220_l0_b x2 g0 (zf_Tale_read_220_l0 x2 g0 n) x3 f0 f1 g1 = some q := h
      unfold zf_Tale_read_220_l0_b at h
      refine zv_ild hB zd77_20 rfl rfl ?_
      refine zv_ild hB zd77_21 rfl rfl ?_
      refine zv_cge hB zd77_22 rfl (fun hc2 => ?_) (fun hc2 => ?_)
      · rw [if_neg (Int.not_lt.mpr hc2)] at h
        have hq := Option.some.inj h
        subst hq
        refine zv_wk hB (L' := [.inr 1000, .inr 1000, .inr 1000, .inl x3, .inr 1000, .inr 1000]) (F' := [.inl f0, .inl f1]) ⟨fun (h : zv_is (.inr 1000)) => (Nat.lt_irrefl 1000 h).elim, fun (h : zv_is (.inr 1000)) => (Nat.lt_irrefl 1000 h).elim, fun (h : zv_is (.inr 1000)) => (Nat.lt_irrefl 1000 h).elim, fun _ => rfl, fun (h : zv_is (.inr 1000)) => (Nat.lt_irrefl 1000 h).elim, fun (h : zv_is (.inr 1000)) => (Nat.lt_irrefl 1000 h).elim, trivial⟩ ⟨fun _ => rfl, fun _ => rfl, trivial⟩ ?_
        exact hK
      · rw [if_pos hc2] at h
        refine zv_ald hB zd77_25 rfl rfl rfl ?_
        refine zv_getf hB zd77_26 rfl rfl (fun _ _ => ?_)
        refine zv_con hB zd77_29 rfl ?_
        refine zv_cgt hB zd77_31 rfl (fun hc3 => ?_) (fun hc3 => ?_)
        · rw [if_pos hc3] at h
          have hq := Option.some.inj h
          subst hq
          refine zv_wk hB (L' := [.inr 1000, .inr 1000, .inr 1000, .inl x3, .inr 1000, .inr 1000]) (F' := [.inl f0, .inl f1]) ⟨fun (h : zv_is (.inr 1000)) => (Nat.lt_irrefl 1000 h).elim, fun (h : zv_is (.inr 1000)) => (Nat.lt_irrefl 1000 h).elim, fun (h : zv_is (.inr 1000)) => (Nat.lt_irrefl 1000 h).elim, fun _ => rfl, fun (h : zv_is (.inr 1000)) => (Nat.lt_irrefl 1000 h).elim, fun (h : zv_is (.inr 1000)) => (Nat.lt_irrefl 1000 h).elim, trivial⟩ ⟨fun _ => rfl, fun _ => rfl, trivial⟩ ?_
          exact hK
        · rw [if_neg (Int.not_lt.mpr hc3)] at h
          refine zv_ald hB zd77_34 rfl rfl rfl ?_
          refine zv_ild hB zd77_35 rfl rfl ?_
          refine zv_ild hB zd77_36 rfl rfl ?_
          obtain ⟨r4, hr4, h⟩ := zi_bind h
          refine zv_cs hB (zv_emq (va2 := [.inr 1, .inl x2, .inl x3]) (F := [.inl f0, .inl f1]) (F' := [.inl f0, .inl f1]) (G := [g0, g1]) (G' := [g0, g1]) (ρ := [1]) (φ := []) (ψ := [0]) [none, none] [some 0, none] zyw_Tale_nameAt_220 zyw_Tale_read_220 zye_Tale_read_220 (by decide +kernel) (zt_Tale_nameAt_220 hr4) trivial ⟨rfl, trivial⟩ rfl rfl rfl rfl rfl rfl rfl) zd77_37 zxt79 rfl (by decide) (by decide) rfl ?_
          refine zv_ist hB zd77_40 rfl rfl rfl ?_
          refine zv_ild hB zd77_42 rfl rfl ?_
          refine zv_con hB zd77_44 rfl ?_
          refine zv_cne hB zd77_45 rfl (fun hc5 => ?_) (fun hc5 => ?_)
          · rw [if_neg hc5] at h
            refine zv_ald hB zd77_54 rfl rfl rfl ?_
            refine zv_getf hB zd77_55 rfl rfl (fun _ _ => ?_)
            refine zv_con hB zd77_58 rfl ?_
            refine zv_cne hB zd77_60 rfl (fun hc6 => ?_) (fun hc6 => ?_)
            · rw [if_neg hc6] at h
              refine zv_ald hB zd77_69 rfl rfl rfl ?_
              refine zv_ild hB zd77_70 rfl rfl ?_
              refine zv_ild hB zd77_71 rfl rfl ?_
              refine zv_con hB zd77_72 rfl ?_
              refine zv_addw hB zd77_73 ?_
              obtain ⟨r7, hr7, h⟩ := zi_bind h
              refine zv_cs hB (zv_emq (va2 := [.inr 1, .inl x2, .inl (zi_w (x3 + 1))]) (F := [.inl f0, .inl f1]) (F' := [.inl f0, .inl f1]) (G := [g0, g1]) (G' := [g0, g1]) (ρ := [1]) (φ := []) (ψ := [0]) [none, none] [some 0, none] zyw_Tale_nameAt_220 zyw_Tale_read_220 zye_Tale_read_220 (by decide +kernel) (zt_Tale_nameAt_220 hr7) trivial ⟨rfl, trivial⟩ rfl rfl rfl rfl rfl rfl rfl) zd77_74 zxt79 rfl (by decide) (by decide) rfl ?_
              refine zv_ist hB zd77_77 rfl rfl rfl ?_
              refine zv_ild hB zd77_79 rfl rfl ?_
              refine zv_con hB zd77_81 rfl ?_
              refine zv_cne hB zd77_82 rfl (fun hc8 => ?_) (fun hc8 => ?_)
              · rw [if_neg hc8] at h
                refine zv_ild hB zd77_93 rfl rfl ?_
                refine zv_ild hB zd77_95 rfl rfl ?_
                refine zv_cne hB zd77_97 rfl (fun hc9 => ?_) (fun hc9 => ?_)
                · rw [if_neg hc9] at h
                  refine zv_ald hB zd77_108 rfl rfl rfl ?_
                  refine zv_getr hB zd77_109 rfl ?_
                  refine zv_ild hB zd77_112 rfl rfl ?_
                  obtain ⟨c10, h⟩ := zi_if h
                  refine zv_iald hB zd77_114 rfl rfl (zi_ix_ok c10).1 (zi_ix_ok c10).2 (fun _ _ => ?_)
                  refine zv_ild hB zd77_115 rfl rfl ?_
                  refine zv_shrw hB zd77_117 ?_
                  refine zv_con hB zd77_118 rfl ?_
                  refine zv_andw hB zd77_119 ?_
                  refine zv_zeq hB zd77_120 rfl (fun hc11 => ?_) (fun hc11 => ?_)
                  · rw [if_pos hc11] at h
                    refine zv_ald hB zd77_130 rfl rfl rfl ?_
                    refine zv_ild hB zd77_131 rfl rfl ?_
                    refine zv_ild hB zd77_133 rfl rfl ?_
                    obtain ⟨r12, hr12, h⟩ := zi_bind h
                    refine zv_cv hB (zv_emq (va2 := [.inr 0, .inl r4, .inl r7]) (F := [.inl f0, .inl f1]) (F' := [.inl r12.2.1, .inl r12.1]) (G := [g0, g1]) (G' := [g0, r12.2.2]) (ρ := [0, 2]) (φ := [1, 0]) (ψ := [1]) [some 1, some 0] [none, some 0] zyw_Tale_addLine zyw_Tale_read_220 zye_Tale_read_220 (by decide +kernel) (zt_Tale_addLine hr12) ⟨⟨_, rfl, fun _ => rfl⟩, ⟨_, rfl, fun _ => rfl⟩, trivial⟩ ⟨rfl, trivial⟩ rfl rfl rfl rfl rfl rfl rfl) zd77_135 zxt80 rfl (by decide) (by decide) rfl ?_
                    refine zv_iincw hB zd77_138 rfl rfl ?_
                    refine zv_ild hB zd77_141 rfl rfl ?_
                    refine zv_ild hB zd77_142 rfl rfl ?_
                    refine zv_cne hB zd77_143 rfl (fun hc13 => ?_) (fun hc13 => ?_)
                    · rw [if_neg hc13] at h
                      refine zv_ald hB zd77_151 rfl rfl rfl ?_
                      refine zv_ild hB zd77_152 rfl rfl ?_
                      obtain ⟨c14, h⟩ := zi_if h
                      refine zv_iald hB zd77_153 rfl rfl (zi_ix_ok c14).1 (zi_ix_ok c14).2 (fun _ _ => ?_)
                      refine zv_con hB zd77_154 rfl ?_
                      refine zv_ceq hB zd77_156 rfl (fun hc15 => ?_) (fun hc15 => ?_)
                      · rw [if_pos hc15] at h
                        refine zv_iincw hB zd77_165 rfl rfl ?_
                        refine zv_goto hB zd77_168 rfl ?_
                        refine zv_wk hB (L' := [.inr 0, .inr 1, .inl x2, .inl (zi_w ((zi_w (x3 + 2)) + 1)), .inr 1000, .inr 1000]) (F' := [.inl r12.2.1, .inl r12.1]) ⟨fun _ => rfl, fun _ => rfl, fun _ => rfl, fun _ => rfl, fun (h : zv_is (.inr 1000)) => (Nat.lt_irrefl 1000 h).elim, fun (h : zv_is (.inr 1000)) => (Nat.lt_irrefl 1000 h).elim, trivial⟩ ⟨fun _ => rfl, fun _ => rfl, trivial⟩ ?_
                        exact ih _ _ _ _ _ q h hK
                      · rw [if_neg hc15] at h
                        refine zv_con hB zd77_159 rfl ?_
                        refine zv_ild hB zd77_160 rfl rfl ?_
                        obtain ⟨r16, hr16, h⟩ := zi_bind h
                        refine zv_cs hB (zv_emq (va2 := [.inl 1, .inl (zi_w (x3 + 2))]) (F := [.inl r12.2.1, .inl r12.1]) (F' := [.inl r12.2.1, .inl r12.1]) (G := [g0, r12.2.2]) (G' := [g0, r12.2.2]) (ρ := []) (φ := []) (ψ := []) [none, none] [none, none] zyw_X_faultAt zyw_Tale_read_220 zye_Tale_read_220 (by decide +kernel) (zt_X_faultAt hr16) trivial trivial rfl rfl rfl rfl rfl rfl rfl) zd77_161 zxt42 rfl (by decide) (by decide) rfl ?_
                        have hw : (r16, r12.2.1, r12.1, r12.2.2) = o := zi_rk (Option.some.inj h) hK
                        subst hw
                        exact hret _ _ _ _ _ zd77_164 (by trivial) ⟨rfl, rfl, rfl⟩
                    · rw [if_pos hc13] at h
                      refine zv_ald hB zd77_146 rfl rfl rfl ?_
                      refine zv_getf hB zd77_147 rfl rfl (fun _ _ => ?_)
                      have hw : (r12.2.1, r12.2.1, r12.1, r12.2.2) = o := zi_rk (Option.some.inj h) hK
                      subst hw
                      exact hret _ _ _ _ _ zd77_150 (by trivial) ⟨rfl, rfl, rfl⟩
                  · rw [if_neg hc11] at h
                    refine zv_con hB zd77_123 rfl ?_
                    refine zv_ild hB zd77_125 rfl rfl ?_
                    obtain ⟨r17, hr17, h⟩ := zi_bind h
                    refine zv_cs hB (zv_emq (va2 := [.inl 6, .inl x3]) (F := [.inl f0, .inl f1]) (F' := [.inl f0, .inl f1]) (G := [g0, g1]) (G' := [g0, g1]) (ρ := []) (φ := []) (ψ := []) [none, none] [none, none] zyw_X_faultAt zyw_Tale_read_220 zye_Tale_read_220 (by decide +kernel) (zt_X_faultAt hr17) trivial trivial rfl rfl rfl rfl rfl rfl rfl) zd77_126 zxt42 rfl (by decide) (by decide) rfl ?_
                    have hw : (r17, f0, f1, g1) = o := zi_rk (Option.some.inj h) hK
                    subst hw
                    exact hret _ _ _ _ _ zd77_129 (by trivial) ⟨rfl, rfl, rfl⟩
                · rw [if_pos hc9] at h
                  refine zv_con hB zd77_100 rfl ?_
                  refine zv_ild hB zd77_101 rfl rfl ?_
                  refine zv_con hB zd77_102 rfl ?_
                  refine zv_addw hB zd77_103 ?_
                  obtain ⟨r18, hr18, h⟩ := zi_bind h
                  refine zv_cs hB (zv_emq (va2 := [.inl 3, .inl (zi_w (x3 + 1))]) (F := [.inl f0, .inl f1]) (F' := [.inl f0, .inl f1]) (G := [g0, g1]) (G' := [g0, g1]) (ρ := []) (φ := []) (ψ := []) [none, none] [none, none] zyw_X_faultAt zyw_Tale_read_220 zye_Tale_read_220 (by decide +kernel) (zt_X_faultAt hr18) trivial trivial rfl rfl rfl rfl rfl rfl rfl) zd77_104 zxt42 rfl (by decide) (by decide) rfl ?_
                  have hw : (r18, f0, f1, g1) = o := zi_rk (Option.some.inj h) hK
                  subst hw
                  exact hret _ _ _ _ _ zd77_107 (by trivial) ⟨rfl, rfl, rfl⟩
              · rw [if_pos hc8] at h
                refine zv_con hB zd77_85 rfl ?_
                refine zv_ild hB zd77_86 rfl rfl ?_
                refine zv_con hB zd77_87 rfl ?_
                refine zv_addw hB zd77_88 ?_
                obtain ⟨r19, hr19, h⟩ := zi_bind h
                refine zv_cs hB (zv_emq (va2 := [.inl 1, .inl (zi_w (x3 + 1))]) (F := [.inl f0, .inl f1]) (F' := [.inl f0, .inl f1]) (G := [g0, g1]) (G' := [g0, g1]) (ρ := []) (φ := []) (ψ := []) [none, none] [none, none] zyw_X_faultAt zyw_Tale_read_220 zye_Tale_read_220 (by decide +kernel) (zt_X_faultAt hr19) trivial trivial rfl rfl rfl rfl rfl rfl rfl) zd77_89 zxt42 rfl (by decide) (by decide) rfl ?_
                have hw : (r19, f0, f1, g1) = o := zi_rk (Option.some.inj h) hK
                subst hw
                exact hret _ _ _ _ _ zd77_92 (by trivial) ⟨rfl, rfl, rfl⟩
            · rw [if_pos hc6] at h
              refine zv_con hB zd77_63 rfl ?_
              refine zv_ild hB zd77_64 rfl rfl ?_
              obtain ⟨r20, hr20, h⟩ := zi_bind h
              refine zv_cs hB (zv_emq (va2 := [.inl 4, .inl x3]) (F := [.inl f0, .inl f1]) (F' := [.inl f0, .inl f1]) (G := [g0, g1]) (G' := [g0, g1]) (ρ := []) (φ := []) (ψ := []) [none, none] [none, none] zyw_X_faultAt zyw_Tale_read_220 zye_Tale_read_220 (by decide +kernel) (zt_X_faultAt hr20) trivial trivial rfl rfl rfl rfl rfl rfl rfl) zd77_65 zxt42 rfl (by decide) (by decide) rfl ?_
              have hw : (r20, f0, f1, g1) = o := zi_rk (Option.some.inj h) hK
              subst hw
              exact hret _ _ _ _ _ zd77_68 (by trivial) ⟨rfl, rfl, rfl⟩
          · rw [if_pos hc5] at h
            refine zv_con hB zd77_48 rfl ?_
            refine zv_ild hB zd77_49 rfl rfl ?_
            obtain ⟨r21, hr21, h⟩ := zi_bind h
            refine zv_cs hB (zv_emq (va2 := [.inl 1, .inl x3]) (F := [.inl f0, .inl f1]) (F' := [.inl f0, .inl f1]) (G := [g0, g1]) (G' := [g0, g1]) (ρ := []) (φ := []) (ψ := []) [none, none] [none, none] zyw_X_faultAt zyw_Tale_read_220 zye_Tale_read_220 (by decide +kernel) (zt_X_faultAt hr21) trivial trivial rfl rfl rfl rfl rfl rfl rfl) zd77_50 zxt42 rfl (by decide) (by decide) rfl ?_
            have hw : (r21, f0, f1, g1) = o := zi_rk (Option.some.inj h) hK
            subst hw
            exact hret _ _ _ _ _ zd77_53 (by trivial) ⟨rfl, rfl, rfl⟩
  unfold zf_Tale_read_220 at h
  refine zv_ald hB zd77_0 rfl rfl rfl ?_
  refine zv_con hB zd77_1 rfl ?_
  refine zv_putf hB zd77_2 rfl rfl (fun h => by cases h) rfl ?_
  refine zv_ald hB zd77_5 rfl rfl rfl ?_
  refine zv_con hB zd77_6 rfl ?_
  refine zv_putf hB zd77_7 rfl rfl (fun h => by cases h) rfl ?_
  refine zv_ald hB zd77_10 rfl rfl rfl ?_
  refine zv_getr hB zd77_11 rfl ?_
  refine zv_con hB zd77_14 rfl ?_
  obtain ⟨r1, hr1, h⟩ := zi_bind h
  refine zv_cs hB (zv_emq (va2 := [.inr 2, .inl 0]) (F := [.inl 0, .inl 0]) (F' := [.inl 0, .inl 0]) (G := [g0, g1]) (G' := [g0, r1]) (ρ := [2]) (φ := []) (ψ := [1]) [none, none] [none, some 0] zyw_Arrays_fill_8 zyw_Tale_read_220 zye_Tale_read_220 (by decide +kernel) (zt_Arrays_fill_8 hr1) trivial ⟨rfl, trivial⟩ rfl rfl rfl rfl rfl rfl rfl) zd77_15 zxt78 rfl (by decide) (by decide) rfl ?_
  refine zv_con hB zd77_18 rfl ?_
  refine zv_ist hB zd77_19 rfl rfl rfl ?_
  obtain ⟨q22, hq22, h⟩ := zi_bind h
  refine l0 _ _ _ _ _ _ q22 hq22 ?_
  rcases q22 with e23 | w25
  · replace h := zi_sl h
    show good 171 [.inr 1000, .inr 1000, .inr 1000, .inl e23.1, .inr 1000, .inr 1000] [] [.inl e23.2.1, .inl e23.2.2.1] [g0, e23.2.2.2]
    refine zv_con hB zd77_171 rfl ?_
    refine zv_ild hB zd77_172 rfl rfl ?_
    obtain ⟨r24, hr24, h⟩ := zi_bind h
    refine zv_cs hB (zv_emq (va2 := [.inl 1, .inl e23.1]) (F := [.inl e23.2.1, .inl e23.2.2.1]) (F' := [.inl e23.2.1, .inl e23.2.2.1]) (G := [g0, e23.2.2.2]) (G' := [g0, e23.2.2.2]) (ρ := []) (φ := []) (ψ := []) [none, none] [none, none] zyw_X_faultAt zyw_Tale_read_220 zye_Tale_read_220 (by decide +kernel) (zt_X_faultAt hr24) trivial trivial rfl rfl rfl rfl rfl rfl rfl) zd77_173 zxt42 rfl (by decide) (by decide) rfl ?_
    have hw := Option.some.inj h
    subst hw
    exact hret _ _ _ _ _ zd77_176 (by trivial) ⟨rfl, rfl, rfl⟩
  · exact Option.some.inj h
/-! X_tale (I)I -/
-- names: 0 StarTales('arg', 0), 1 Tape(0, 0, 6), 2 Tale(0, 0, 11), 3 (0, 220)(1, 3, 0), 4 (0, 8)(2, 6, 2), 5 Tale(0, 0, 10)
-- fields: f0 = 1.size_, f1 = 0.spareTale_, f2 = 2.lines_, f3 = 2.names_, f4 = 0.telling_; arrays: g0 = 3, g1 = 4; out: [('ret', None), ('f', 0), ('f', 2), ('f', 3), ('g', 1), ('r', 1), ('r', 4)]
abbrev zy_X_tale : zNL := (6, [(0, 0), (1, 3), (2, 6), (5, 6)], [(1, 3, 1, 0), (0, 0, 11, 1), (2, 6, 0, 2), (2, 6, 1, 3), (0, 0, 10, 4)], [(0, 0, 6, 1), (1, 3, 0, 3), (2, 6, 2, 4)], [(3, 0, 220, 0), (4, 0, 8, 1)])
theorem zyw_X_tale : zv_wf zy_X_tale = true := by decide +kernel
theorem zye_X_tale : zv_ek2 zy_X_tale = true := by decide +kernel
def zf_X_tale (x1 : Int) (f0 : Int) (f2 : Int) (f3 : Int) (g0 : (Int → Int)) (g1 : (Int → Int)) : Option (Int × Int × Int × Int × (Int → Int) × Nat × Nat) := (zf_X_isWithin x1 1 60).bind fun r1 => (if r1 = 0 then (some ((-1), f0, f2, f3, g1, 2, 5)) else ((zf_Tape_take x1 f0).bind fun r3 => (if r3.1 = 0 then (some ((-1), r3.2, f2, f3, g1, 2, 5)) else ((zf_Tale_read_220 x1 f2 f3 g0 g1).bind fun r5 => (if 0 < r5.1 then (some (r5.1, r3.2, r5.2.1, r5.2.2.1, r5.2.2.2, 5, 2)) else (some (r5.1, r3.2, r5.2.1, r5.2.2.1, r5.2.2.2, 2, 5)))))))
theorem zd76_0 : decode zxm76.2.1 0 = .ok (.iload_n 1, 1) := by decide +kernel
theorem zd76_1 : decode zxm76.2.1 1 = .ok (.iconst 1, 1) := by decide +kernel
theorem zd76_2 : decode zxm76.2.1 2 = .ok (.bipush 60, 2) := by decide +kernel
theorem zd76_4 : decode zxm76.2.1 4 = .ok (.invokestatic 126, 3) := by decide +kernel
theorem zd76_7 : decode zxm76.2.1 7 = .ok (.ifCond .eq 14, 3) := by decide +kernel
theorem zd76_10 : decode zxm76.2.1 10 = .ok (.aload_n 0, 1) := by decide +kernel
theorem zd76_11 : decode zxm76.2.1 11 = .ok (.getfield 39, 3) := by decide +kernel
theorem zd76_14 : decode zxm76.2.1 14 = .ok (.iload_n 1, 1) := by decide +kernel
theorem zd76_15 : decode zxm76.2.1 15 = .ok (.invokevirtual 197, 3) := by decide +kernel
theorem zd76_18 : decode zxm76.2.1 18 = .ok (.ifCond .ne 5, 3) := by decide +kernel
theorem zd76_21 : decode zxm76.2.1 21 = .ok (.iconst (-1), 1) := by decide +kernel
theorem zd76_22 : decode zxm76.2.1 22 = .ok (.ireturn, 1) := by decide +kernel
theorem zd76_23 : decode zxm76.2.1 23 = .ok (.aload_n 0, 1) := by decide +kernel
theorem zd76_24 : decode zxm76.2.1 24 = .ok (.getfield 73, 3) := by decide +kernel
theorem zd76_27 : decode zxm76.2.1 27 = .ok (.aload_n 0, 1) := by decide +kernel
theorem zd76_28 : decode zxm76.2.1 28 = .ok (.getfield 39, 3) := by decide +kernel
theorem zd76_31 : decode zxm76.2.1 31 = .ok (.getfield 55, 3) := by decide +kernel
theorem zd76_34 : decode zxm76.2.1 34 = .ok (.iload_n 1, 1) := by decide +kernel
theorem zd76_35 : decode zxm76.2.1 35 = .ok (.invokevirtual 204, 3) := by decide +kernel
theorem zd76_38 : decode zxm76.2.1 38 = .ok (.istore_n 2, 1) := by decide +kernel
theorem zd76_39 : decode zxm76.2.1 39 = .ok (.iload_n 2, 1) := by decide +kernel
theorem zd76_40 : decode zxm76.2.1 40 = .ok (.ifCond .le 21, 3) := by decide +kernel
theorem zd76_43 : decode zxm76.2.1 43 = .ok (.aload_n 0, 1) := by decide +kernel
theorem zd76_44 : decode zxm76.2.1 44 = .ok (.getfield 69, 3) := by decide +kernel
theorem zd76_47 : decode zxm76.2.1 47 = .ok (.astore_n 3, 1) := by decide +kernel
theorem zd76_48 : decode zxm76.2.1 48 = .ok (.aload_n 0, 1) := by decide +kernel
theorem zd76_49 : decode zxm76.2.1 49 = .ok (.aload_n 0, 1) := by decide +kernel
theorem zd76_50 : decode zxm76.2.1 50 = .ok (.getfield 73, 3) := by decide +kernel
theorem zd76_53 : decode zxm76.2.1 53 = .ok (.putfield 69, 3) := by decide +kernel
theorem zd76_56 : decode zxm76.2.1 56 = .ok (.aload_n 0, 1) := by decide +kernel
theorem zd76_57 : decode zxm76.2.1 57 = .ok (.aload_n 3, 1) := by decide +kernel
theorem zd76_58 : decode zxm76.2.1 58 = .ok (.putfield 73, 3) := by decide +kernel
theorem zd76_61 : decode zxm76.2.1 61 = .ok (.iload_n 2, 1) := by decide +kernel
theorem zd76_62 : decode zxm76.2.1 62 = .ok (.ireturn, 1) := by decide +kernel
theorem zt_X_tale {x1 : Int} {f0 : Int} {f2 : Int} {f3 : Int} {g0 : (Int → Int)} {g1 : (Int → Int)} {o : Int × Int × Int × Int × (Int → Int) × Nat × Nat} (h : zf_X_tale x1 f0 f2 f3 g0 g1 = some o) : zv_Fn z_TB z_cl z_KX zy_X_tale zxm76 (2, 120) [.inr 0, .inl x1] [.inl f0, .inr 2, .inl f2, .inl f3, .inr 5] [g0, g1] (some o.1) [.inl o.2.1, .inr o.2.2.2.2.2.1, .inl o.2.2.1, .inl o.2.2.2.1, .inr o.2.2.2.2.2.2] [g0, o.2.2.2.2.1] := zv_meth (K := (z_KF0, z_KC0, z_KL0, z_KT0, [], [], [], none)) (FT := z_FT) (MT := z_MT) (n := 2) zxp76 (z_ks0 _ (fun _ h => List.mem_cons_of_mem _ h) _ _ _ _ (fun j r h _ => by cases h)) (fun _ _ => zs_KX_p) zyw_X_tale (fun va F G h => by obtain ⟨rfl, _⟩ := h; rfl) (fun va F G h => by obtain ⟨rfl, _⟩ := h; rfl) rfl fun good va F G hB hret hvret hP => by
  obtain ⟨rfl, rfl, rfl⟩ := hP
  unfold zf_X_tale at h
  refine zv_ild hB zd76_0 rfl rfl ?_
  refine zv_con hB zd76_1 rfl ?_
  refine zv_con hB zd76_2 rfl ?_
  obtain ⟨r1, hr1, h⟩ := zi_bind h
  refine zv_cs hB (zv_emq (va2 := [.inl x1, .inl 1, .inl 60]) (F := [.inl f0, .inr 2, .inl f2, .inl f3, .inr 5]) (F' := [.inl f0, .inr 2, .inl f2, .inl f3, .inr 5]) (G := [g0, g1]) (G' := [g0, g1]) (ρ := []) (φ := []) (ψ := []) [none, none, none, none, none] [none, none] zyw_X_isWithin zyw_X_tale zye_X_tale (by decide +kernel) (zt_X_isWithin hr1) trivial trivial rfl rfl rfl rfl rfl rfl rfl) zd76_4 zxt15 rfl (by decide) (by decide) rfl ?_
  refine zv_zeq hB zd76_7 rfl (fun hc2 => ?_) (fun hc2 => ?_)
  · rw [if_pos hc2] at h
    refine zv_con hB zd76_21 rfl ?_
    have hw := Option.some.inj h
    subst hw
    exact hret _ _ _ _ _ zd76_22 (by trivial) ⟨rfl, rfl, rfl⟩
  · rw [if_neg hc2] at h
    refine zv_ald hB zd76_10 rfl rfl rfl ?_
    refine zv_getr hB zd76_11 rfl ?_
    refine zv_ild hB zd76_14 rfl rfl ?_
    obtain ⟨r3, hr3, h⟩ := zi_bind h
    refine zv_cv hB (zv_emq (va2 := [.inr 1, .inl x1]) (F := [.inl f0, .inr 2, .inl f2, .inl f3, .inr 5]) (F' := [.inl r3.2, .inr 2, .inl f2, .inl f3, .inr 5]) (G := [g0, g1]) (G' := [g0, g1]) (ρ := [1]) (φ := [0]) (ψ := []) [some 0, none, none, none, none] [none, none] zyw_Tape_take zyw_X_tale zye_X_tale (by decide +kernel) (zt_Tape_take hr3) ⟨⟨_, rfl, fun _ => rfl⟩, trivial⟩ trivial rfl rfl rfl rfl rfl rfl rfl) zd76_15 zxt35 rfl (by decide) (by decide) rfl ?_
    refine zv_zne hB zd76_18 rfl (fun hc4 => ?_) (fun hc4 => ?_)
    · rw [if_neg hc4] at h
      refine zv_ald hB zd76_23 rfl rfl rfl ?_
      refine zv_getq hB zd76_24 rfl rfl rfl ?_
      refine zv_ald hB zd76_27 rfl rfl rfl ?_
      refine zv_getr hB zd76_28 rfl ?_
      refine zv_getr hB zd76_31 rfl ?_
      refine zv_ild hB zd76_34 rfl rfl ?_
      obtain ⟨r5, hr5, h⟩ := zi_bind h
      refine zv_cv hB (zv_emq (va2 := [.inr 2, .inr 3, .inl x1]) (F := [.inl r3.2, .inr 2, .inl f2, .inl f3, .inr 5]) (F' := [.inl r3.2, .inr 2, .inl r5.2.1, .inl r5.2.2.1, .inr 5]) (G := [g0, g1]) (G' := [g0, r5.2.2.2]) (ρ := [2, 3, 4]) (φ := [2, 3]) (ψ := [0, 1]) [none, none, some 0, some 1, none] [some 0, some 1] zyw_Tale_read_220 zyw_X_tale zye_X_tale (by decide +kernel) (zt_Tale_read_220 hr5) ⟨⟨_, rfl, fun _ => rfl⟩, ⟨_, rfl, fun _ => rfl⟩, trivial⟩ ⟨rfl, rfl, trivial⟩ rfl rfl rfl rfl rfl rfl rfl) zd76_35 zxt77 rfl (by decide) (by decide) rfl ?_
      refine zv_ist hB zd76_38 rfl rfl rfl ?_
      refine zv_ild hB zd76_39 rfl rfl ?_
      refine zv_zle hB zd76_40 rfl (fun hc6 => ?_) (fun hc6 => ?_)
      · rw [if_neg (Int.not_lt.mpr hc6)] at h
        refine zv_ild hB zd76_61 rfl rfl ?_
        have hw := Option.some.inj h
        subst hw
        exact hret _ _ _ _ _ zd76_62 (by trivial) ⟨rfl, rfl, rfl⟩
      · rw [if_pos hc6] at h
        refine zv_ald hB zd76_43 rfl rfl rfl ?_
        refine zv_getq hB zd76_44 rfl rfl rfl ?_
        refine zv_ast hB zd76_47 rfl rfl rfl rfl ?_
        refine zv_ald hB zd76_48 rfl rfl rfl ?_
        refine zv_ald hB zd76_49 rfl rfl rfl ?_
        refine zv_getq hB zd76_50 rfl rfl rfl ?_
        refine zv_putq hB zd76_53 rfl rfl (by decide) rfl ?_
        refine zv_ald hB zd76_56 rfl rfl rfl ?_
        refine zv_ald hB zd76_57 rfl rfl rfl ?_
        refine zv_putq hB zd76_58 rfl rfl (by decide) rfl ?_
        refine zv_ild hB zd76_61 rfl rfl ?_
        have hw := Option.some.inj h
        subst hw
        exact hret _ _ _ _ _ zd76_62 (by trivial) ⟨rfl, rfl, rfl⟩
    · rw [if_pos hc4] at h
      refine zv_con hB zd76_21 rfl ?_
      have hw := Option.some.inj h
      subst hw
      exact hret _ _ _ _ _ zd76_22 (by trivial) ⟨rfl, rfl, rfl⟩
/-! Sky_standing (I)I -/
-- names: 0 Sky('arg', 0), 1 (0, 24)(0, 1, 1)
-- fields: f0 = 0.hour_; arrays: g0 = 1; out: [('ret', None)]
abbrev zy_Sky_standing : zNL := (2, [(0, 1)], [(0, 1, 6, 0)], [(0, 1, 1, 1)], [(1, 0, 24, 0)])
theorem zyw_Sky_standing : zv_wf zy_Sky_standing = true := by decide +kernel
theorem zye_Sky_standing : zv_ek2 zy_Sky_standing = true := by decide +kernel
def zf_Sky_standing (x1 : Int) (f0 : Int) (g0 : (Int → Int)) : Option (Int) := cond (zi_ix x1 24) (some (zi_rem (zi_w ((g0 x1) + f0)) 24)) none
theorem zd82_0 : decode zxm82.2.1 0 = .ok (.aload_n 0, 1) := by decide +kernel
theorem zd82_1 : decode zxm82.2.1 1 = .ok (.getfield 15, 3) := by decide +kernel
theorem zd82_4 : decode zxm82.2.1 4 = .ok (.iload_n 1, 1) := by decide +kernel
theorem zd82_5 : decode zxm82.2.1 5 = .ok (.iaload, 1) := by decide +kernel
theorem zd82_6 : decode zxm82.2.1 6 = .ok (.aload_n 0, 1) := by decide +kernel
theorem zd82_7 : decode zxm82.2.1 7 = .ok (.getfield 31, 3) := by decide +kernel
theorem zd82_10 : decode zxm82.2.1 10 = .ok (.iadd, 1) := by decide +kernel
theorem zd82_11 : decode zxm82.2.1 11 = .ok (.bipush 24, 2) := by decide +kernel
theorem zd82_13 : decode zxm82.2.1 13 = .ok (.irem, 1) := by decide +kernel
theorem zd82_14 : decode zxm82.2.1 14 = .ok (.ireturn, 1) := by decide +kernel
theorem zt_Sky_standing {x1 : Int} {f0 : Int} {g0 : (Int → Int)} {o : Int} (h : zf_Sky_standing x1 f0 g0 = some o) : zv_Fn z_TB z_cl z_KX zy_Sky_standing zxm82 (0, 0) [.inr 0, .inl x1] [.inl f0] [g0] (some o) [.inl f0] [g0] := zv_meth (K := (z_KF8, z_KC8, z_KL8, z_KT8, [], [], [], none)) (FT := z_FT) (MT := z_MT) (n := 2) zxp82 (z_ks8 _ (fun _ h => List.mem_cons_of_mem _ h) _ _ _ _ (fun j r h _ => by cases h)) (fun _ _ => zs_KX_p) zyw_Sky_standing (fun va F G h => by obtain ⟨rfl, _⟩ := h; rfl) (fun va F G h => by obtain ⟨rfl, _⟩ := h; rfl) rfl fun good va F G hB hret hvret hP => by
  obtain ⟨rfl, rfl, rfl⟩ := hP
  unfold zf_Sky_standing at h
  refine zv_ald hB zd82_0 rfl rfl rfl ?_
  refine zv_getr hB zd82_1 rfl ?_
  refine zv_ild hB zd82_4 rfl rfl ?_
  obtain ⟨c1, h⟩ := zi_if h
  refine zv_iald hB zd82_5 rfl rfl (zi_ix_ok c1).1 (zi_ix_ok c1).2 (fun _ _ => ?_)
  refine zv_ald hB zd82_6 rfl rfl rfl ?_
  refine zv_getf hB zd82_7 rfl rfl (fun _ _ => ?_)
  refine zv_addw hB zd82_10 ?_
  refine zv_con hB zd82_11 rfl ?_
  refine zv_remw hB zd82_13 (by decide) ?_
  have hw := Option.some.inj h
  subst hw
  exact hret _ _ _ _ _ zd82_14 (by trivial) ⟨rfl, rfl, rfl⟩
/-! X_starIs (II)I -/
-- names: 0 StarTales('arg', 0), 1 Sky(0, 0, 0), 2 (0, 24)(1, 1, 1), 3 (0, 24)(1, 1, 2), 4 (0, 24)(1, 1, 3), 5 (0, 24)(1, 1, 4), 6 (0, 24)(1, 1, 5)
-- fields: f0 = 1.told_, f1 = 1.hour_; arrays: g0 = 2, g1 = 3, g2 = 4, g3 = 5, g4 = 6; out: [('ret', None)]
abbrev zy_X_starIs : zNL := (7, [(0, 0), (1, 1)], [(1, 1, 0, 0), (1, 1, 6, 1)], [(0, 0, 0, 1), (1, 1, 1, 2), (1, 1, 2, 3), (1, 1, 3, 4), (1, 1, 4, 5), (1, 1, 5, 6)], [(2, 0, 24, 0), (3, 0, 24, 1), (4, 0, 24, 2), (5, 0, 24, 3), (6, 0, 24, 4)])
theorem zyw_X_starIs : zv_wf zy_X_starIs = true := by decide +kernel
theorem zye_X_starIs : zv_ek2 zy_X_starIs = true := by decide +kernel
def zf_X_starIs (x1 : Int) (x2 : Int) (f0 : Int) (f1 : Int) (g0 : (Int → Int)) (g1 : (Int → Int)) (g2 : (Int → Int)) (g3 : (Int → Int)) (g4 : (Int → Int)) : Option (Int) := (zf_Sky_hasStar x1 f0).bind fun r1 => (if r1 = 0 then (some (-1)) else (if x2 = 0 then (cond (zi_ix x1 24) (some (g0 x1)) none) else (if x2 = 1 then (cond (zi_ix x1 24) (some (g1 x1)) none) else (if x2 = 2 then (cond (zi_ix x1 24) (some (g2 x1)) none) else (if x2 = 3 then ((zf_Sky_standing x1 f1 g0).bind fun r10 => (some r10)) else (if x2 = 4 then (cond (zi_ix x1 24) (some (zi_w ((g3 x1) + 3))) none) else (if x2 = 5 then (cond (zi_ix x1 24) (some (zi_w ((g4 x1) + 3))) none) else (some (-1)))))))))
theorem zd81_0 : decode zxm81.2.1 0 = .ok (.aload_n 0, 1) := by decide +kernel
theorem zd81_1 : decode zxm81.2.1 1 = .ok (.getfield 10, 3) := by decide +kernel
theorem zd81_4 : decode zxm81.2.1 4 = .ok (.iload_n 1, 1) := by decide +kernel
theorem zd81_5 : decode zxm81.2.1 5 = .ok (.invokevirtual 153, 3) := by decide +kernel
theorem zd81_8 : decode zxm81.2.1 8 = .ok (.ifCond .ne 5, 3) := by decide +kernel
theorem zd81_11 : decode zxm81.2.1 11 = .ok (.iconst (-1), 1) := by decide +kernel
theorem zd81_12 : decode zxm81.2.1 12 = .ok (.ireturn, 1) := by decide +kernel
theorem zd81_13 : decode zxm81.2.1 13 = .ok (.iload_n 2, 1) := by decide +kernel
theorem zd81_14 : decode zxm81.2.1 14 = .ok (.tableswitch 101 0 5 #[38, 48, 58, 68, 77, 89], 38) := by decide +kernel
theorem zd81_52 : decode zxm81.2.1 52 = .ok (.aload_n 0, 1) := by decide +kernel
theorem zd81_53 : decode zxm81.2.1 53 = .ok (.getfield 10, 3) := by decide +kernel
theorem zd81_56 : decode zxm81.2.1 56 = .ok (.getfield 138, 3) := by decide +kernel
theorem zd81_59 : decode zxm81.2.1 59 = .ok (.iload_n 1, 1) := by decide +kernel
theorem zd81_60 : decode zxm81.2.1 60 = .ok (.iaload, 1) := by decide +kernel
theorem zd81_61 : decode zxm81.2.1 61 = .ok (.ireturn, 1) := by decide +kernel
theorem zd81_62 : decode zxm81.2.1 62 = .ok (.aload_n 0, 1) := by decide +kernel
theorem zd81_63 : decode zxm81.2.1 63 = .ok (.getfield 10, 3) := by decide +kernel
theorem zd81_66 : decode zxm81.2.1 66 = .ok (.getfield 141, 3) := by decide +kernel
theorem zd81_69 : decode zxm81.2.1 69 = .ok (.iload_n 1, 1) := by decide +kernel
theorem zd81_70 : decode zxm81.2.1 70 = .ok (.iaload, 1) := by decide +kernel
theorem zd81_71 : decode zxm81.2.1 71 = .ok (.ireturn, 1) := by decide +kernel
theorem zd81_72 : decode zxm81.2.1 72 = .ok (.aload_n 0, 1) := by decide +kernel
theorem zd81_73 : decode zxm81.2.1 73 = .ok (.getfield 10, 3) := by decide +kernel
theorem zd81_76 : decode zxm81.2.1 76 = .ok (.getfield 144, 3) := by decide +kernel
theorem zd81_79 : decode zxm81.2.1 79 = .ok (.iload_n 1, 1) := by decide +kernel
theorem zd81_80 : decode zxm81.2.1 80 = .ok (.iaload, 1) := by decide +kernel
theorem zd81_81 : decode zxm81.2.1 81 = .ok (.ireturn, 1) := by decide +kernel
theorem zd81_82 : decode zxm81.2.1 82 = .ok (.aload_n 0, 1) := by decide +kernel
theorem zd81_83 : decode zxm81.2.1 83 = .ok (.getfield 10, 3) := by decide +kernel
theorem zd81_86 : decode zxm81.2.1 86 = .ok (.iload_n 1, 1) := by decide +kernel
theorem zd81_87 : decode zxm81.2.1 87 = .ok (.invokevirtual 207, 3) := by decide +kernel
theorem zd81_90 : decode zxm81.2.1 90 = .ok (.ireturn, 1) := by decide +kernel
theorem zd81_91 : decode zxm81.2.1 91 = .ok (.aload_n 0, 1) := by decide +kernel
theorem zd81_92 : decode zxm81.2.1 92 = .ok (.getfield 10, 3) := by decide +kernel
theorem zd81_95 : decode zxm81.2.1 95 = .ok (.getfield 147, 3) := by decide +kernel
theorem zd81_98 : decode zxm81.2.1 98 = .ok (.iload_n 1, 1) := by decide +kernel
theorem zd81_99 : decode zxm81.2.1 99 = .ok (.iaload, 1) := by decide +kernel
theorem zd81_100 : decode zxm81.2.1 100 = .ok (.iconst 3, 1) := by decide +kernel
theorem zd81_101 : decode zxm81.2.1 101 = .ok (.iadd, 1) := by decide +kernel
theorem zd81_102 : decode zxm81.2.1 102 = .ok (.ireturn, 1) := by decide +kernel
theorem zd81_103 : decode zxm81.2.1 103 = .ok (.aload_n 0, 1) := by decide +kernel
theorem zd81_104 : decode zxm81.2.1 104 = .ok (.getfield 10, 3) := by decide +kernel
theorem zd81_107 : decode zxm81.2.1 107 = .ok (.getfield 150, 3) := by decide +kernel
theorem zd81_110 : decode zxm81.2.1 110 = .ok (.iload_n 1, 1) := by decide +kernel
theorem zd81_111 : decode zxm81.2.1 111 = .ok (.iaload, 1) := by decide +kernel
theorem zd81_112 : decode zxm81.2.1 112 = .ok (.iconst 3, 1) := by decide +kernel
theorem zd81_113 : decode zxm81.2.1 113 = .ok (.iadd, 1) := by decide +kernel
theorem zd81_114 : decode zxm81.2.1 114 = .ok (.ireturn, 1) := by decide +kernel
theorem zd81_115 : decode zxm81.2.1 115 = .ok (.iconst (-1), 1) := by decide +kernel
theorem zd81_116 : decode zxm81.2.1 116 = .ok (.ireturn, 1) := by decide +kernel
theorem zt_X_starIs {x1 : Int} {x2 : Int} {f0 : Int} {f1 : Int} {g0 : (Int → Int)} {g1 : (Int → Int)} {g2 : (Int → Int)} {g3 : (Int → Int)} {g4 : (Int → Int)} {o : Int} (h : zf_X_starIs x1 x2 f0 f1 g0 g1 g2 g3 g4 = some o) : zv_Fn z_TB z_cl z_KX zy_X_starIs zxm81 (1, 60) [.inr 0, .inl x1, .inl x2] [.inl f0, .inl f1] [g0, g1, g2, g3, g4] (some o) [.inl f0, .inl f1] [g0, g1, g2, g3, g4] := zv_meth (K := (z_KF0, z_KC0, z_KL0, z_KT0, [], [], [], none)) (FT := z_FT) (MT := z_MT) (n := 3) zxp81 (z_ks0 _ (fun _ h => List.mem_cons_of_mem _ h) _ _ _ _ (fun j r h _ => by cases h)) (fun _ _ => zs_KX_p) zyw_X_starIs (fun va F G h => by obtain ⟨rfl, _⟩ := h; rfl) (fun va F G h => by obtain ⟨rfl, _⟩ := h; rfl) rfl fun good va F G hB hret hvret hP => by
  obtain ⟨rfl, rfl, rfl⟩ := hP
  unfold zf_X_starIs at h
  refine zv_ald hB zd81_0 rfl rfl rfl ?_
  refine zv_getr hB zd81_1 rfl ?_
  refine zv_ild hB zd81_4 rfl rfl ?_
  obtain ⟨r1, hr1, h⟩ := zi_bind h
  refine zv_cv hB (zv_emq (va2 := [.inr 1, .inl x1]) (F := [.inl f0, .inl f1]) (F' := [.inl f0, .inl f1]) (G := [g0, g1, g2, g3, g4]) (G' := [g0, g1, g2, g3, g4]) (ρ := [1]) (φ := [0]) (ψ := []) [some 0, none] [none, none, none, none, none] zyw_Sky_hasStar zyw_X_starIs zye_X_starIs (by decide +kernel) (zt_Sky_hasStar hr1) ⟨⟨_, rfl, fun _ => rfl⟩, trivial⟩ trivial rfl rfl rfl rfl rfl rfl rfl) zd81_5 zxt18 rfl (by decide) (by decide) rfl ?_
  refine zv_zne hB zd81_8 rfl (fun hc2 => ?_) (fun hc2 => ?_)
  · rw [if_neg hc2] at h
    refine zv_ild hB zd81_13 rfl rfl ?_
    refine zv_tsw hB zd81_14 rfl ?_
    refine ⟨fun hc3 => ⟨_, rfl, ?_⟩, fun hc3 => ?_⟩
    · replace hc3 : x2 = 0 := hc3
      rw [if_pos hc3] at h
      refine zv_ald hB zd81_52 rfl rfl rfl ?_
      refine zv_getr hB zd81_53 rfl ?_
      refine zv_getr hB zd81_56 rfl ?_
      refine zv_ild hB zd81_59 rfl rfl ?_
      obtain ⟨c4, h⟩ := zi_if h
      refine zv_iald hB zd81_60 rfl rfl (zi_ix_ok c4).1 (zi_ix_ok c4).2 (fun _ _ => ?_)
      have hw := Option.some.inj h
      subst hw
      exact hret _ _ _ _ _ zd81_61 (by trivial) ⟨rfl, rfl, rfl⟩
    replace hc3 : x2 ≠ 0 := hc3
    rw [if_neg hc3] at h
    refine ⟨fun hc5 => ⟨_, rfl, ?_⟩, fun hc5 => ?_⟩
    · replace hc5 : x2 = 1 := hc5
      rw [if_pos hc5] at h
      refine zv_ald hB zd81_62 rfl rfl rfl ?_
      refine zv_getr hB zd81_63 rfl ?_
      refine zv_getr hB zd81_66 rfl ?_
      refine zv_ild hB zd81_69 rfl rfl ?_
      obtain ⟨c6, h⟩ := zi_if h
      refine zv_iald hB zd81_70 rfl rfl (zi_ix_ok c6).1 (zi_ix_ok c6).2 (fun _ _ => ?_)
      have hw := Option.some.inj h
      subst hw
      exact hret _ _ _ _ _ zd81_71 (by trivial) ⟨rfl, rfl, rfl⟩
    replace hc5 : x2 ≠ 1 := hc5
    rw [if_neg hc5] at h
    refine ⟨fun hc7 => ⟨_, rfl, ?_⟩, fun hc7 => ?_⟩
    · replace hc7 : x2 = 2 := hc7
      rw [if_pos hc7] at h
      refine zv_ald hB zd81_72 rfl rfl rfl ?_
      refine zv_getr hB zd81_73 rfl ?_
      refine zv_getr hB zd81_76 rfl ?_
      refine zv_ild hB zd81_79 rfl rfl ?_
      obtain ⟨c8, h⟩ := zi_if h
      refine zv_iald hB zd81_80 rfl rfl (zi_ix_ok c8).1 (zi_ix_ok c8).2 (fun _ _ => ?_)
      have hw := Option.some.inj h
      subst hw
      exact hret _ _ _ _ _ zd81_81 (by trivial) ⟨rfl, rfl, rfl⟩
    replace hc7 : x2 ≠ 2 := hc7
    rw [if_neg hc7] at h
    refine ⟨fun hc9 => ⟨_, rfl, ?_⟩, fun hc9 => ?_⟩
    · replace hc9 : x2 = 3 := hc9
      rw [if_pos hc9] at h
      refine zv_ald hB zd81_82 rfl rfl rfl ?_
      refine zv_getr hB zd81_83 rfl ?_
      refine zv_ild hB zd81_86 rfl rfl ?_
      obtain ⟨r10, hr10, h⟩ := zi_bind h
      refine zv_cv hB (zv_emq (va2 := [.inr 1, .inl x1]) (F := [.inl f0, .inl f1]) (F' := [.inl f0, .inl f1]) (G := [g0, g1, g2, g3, g4]) (G' := [g0, g1, g2, g3, g4]) (ρ := [1, 2]) (φ := [1]) (ψ := [0]) [none, some 0] [some 0, none, none, none, none] zyw_Sky_standing zyw_X_starIs zye_X_starIs (by decide +kernel) (zt_Sky_standing hr10) ⟨⟨_, rfl, fun _ => rfl⟩, trivial⟩ ⟨rfl, trivial⟩ rfl rfl rfl rfl rfl rfl rfl) zd81_87 zxt82 rfl (by decide) (by decide) rfl ?_
      have hw := Option.some.inj h
      subst hw
      exact hret _ _ _ _ _ zd81_90 (by trivial) ⟨rfl, rfl, rfl⟩
    replace hc9 : x2 ≠ 3 := hc9
    rw [if_neg hc9] at h
    refine ⟨fun hc11 => ⟨_, rfl, ?_⟩, fun hc11 => ?_⟩
    · replace hc11 : x2 = 4 := hc11
      rw [if_pos hc11] at h
      refine zv_ald hB zd81_91 rfl rfl rfl ?_
      refine zv_getr hB zd81_92 rfl ?_
      refine zv_getr hB zd81_95 rfl ?_
      refine zv_ild hB zd81_98 rfl rfl ?_
      obtain ⟨c12, h⟩ := zi_if h
      refine zv_iald hB zd81_99 rfl rfl (zi_ix_ok c12).1 (zi_ix_ok c12).2 (fun _ _ => ?_)
      refine zv_con hB zd81_100 rfl ?_
      refine zv_addw hB zd81_101 ?_
      have hw := Option.some.inj h
      subst hw
      exact hret _ _ _ _ _ zd81_102 (by trivial) ⟨rfl, rfl, rfl⟩
    replace hc11 : x2 ≠ 4 := hc11
    rw [if_neg hc11] at h
    refine ⟨fun hc13 => ⟨_, rfl, ?_⟩, fun hc13 => ?_⟩
    · replace hc13 : x2 = 5 := hc13
      rw [if_pos hc13] at h
      refine zv_ald hB zd81_103 rfl rfl rfl ?_
      refine zv_getr hB zd81_104 rfl ?_
      refine zv_getr hB zd81_107 rfl ?_
      refine zv_ild hB zd81_110 rfl rfl ?_
      obtain ⟨c14, h⟩ := zi_if h
      refine zv_iald hB zd81_111 rfl rfl (zi_ix_ok c14).1 (zi_ix_ok c14).2 (fun _ _ => ?_)
      refine zv_con hB zd81_112 rfl ?_
      refine zv_addw hB zd81_113 ?_
      have hw := Option.some.inj h
      subst hw
      exact hret _ _ _ _ _ zd81_114 (by trivial) ⟨rfl, rfl, rfl⟩
    replace hc13 : x2 ≠ 5 := hc13
    rw [if_neg hc13] at h
    refine ⟨_, rfl, ?_⟩
    refine zv_con hB zd81_115 rfl ?_
    have hw := Option.some.inj h
    subst hw
    exact hret _ _ _ _ _ zd81_116 (by trivial) ⟨rfl, rfl, rfl⟩
  · rw [if_pos hc2] at h
    refine zv_con hB zd81_11 rfl ?_
    have hw := Option.some.inj h
    subst hw
    exact hret _ _ _ _ _ zd81_12 (by trivial) ⟨rfl, rfl, rfl⟩
/-! Arrays_fill_24 ([II)V -/
-- names: 0 (0, 24)('arg', 0)
-- fields: ; arrays: g0 = 0; out: [('g', 0)]
abbrev zy_Arrays_fill_24 : zNL := (1, [], [], [], [(0, 0, 24, 0)])
theorem zyw_Arrays_fill_24 : zv_wf zy_Arrays_fill_24 = true := by decide +kernel
theorem zye_Arrays_fill_24 : zv_ek2 zy_Arrays_fill_24 = true := by decide +kernel
def zf_Arrays_fill_24_l0_b (x1 : Int) (x3 : Int) (rec : Int → (Int → Int) → Option ((Int → Int))) (x2 : Int) (g0 : (Int → Int)) : Option ((Int → Int)) := if x2 < x3 then (cond (zi_ix x2 24) (rec (zi_w (x2 + 1)) (zv_up g0 x2 x1)) none) else (some g0)
def zf_Arrays_fill_24_l0 (x1 : Int) (x3 : Int) : Nat → Int → (Int → Int) → Option ((Int → Int))
  | 0, _, _ => none
  | n + 1, x2, g0 => zf_Arrays_fill_24_l0_b x1 x3 (zf_Arrays_fill_24_l0 x1 x3 n) x2 g0
def zf_Arrays_fill_24 (x1 : Int) (g0 : (Int → Int)) : Option ((Int → Int)) := (zf_Arrays_fill_24_l0 x1 24 zi_fu 0 g0).bind fun q3 => (some q3)
theorem zt_Arrays_fill_24 {x1 : Int} {g0 : (Int → Int)} {o : (Int → Int)} (h : zf_Arrays_fill_24 x1 g0 = some o) : zv_Fn z_TB z_cl z_KX zy_Arrays_fill_24 zxm78 (0, 0) [.inr 0, .inl x1] [] [g0] none [] [o] := zv_meth (K := (z_KF20, z_KC20, z_KL20, z_KT20, [], [], [], none)) (FT := z_FT) (MT := z_MT) (n := 2) zxp78 (z_ks20 _ (fun _ h => List.mem_cons_of_mem _ h) _ _ _ _ (fun j r h _ => by cases h)) (fun _ _ => zs_KX_p) zyw_Arrays_fill_24 (fun va F G h => by obtain ⟨rfl, _⟩ := h; rfl) (fun va F G h => by obtain ⟨rfl, _⟩ := h; rfl) rfl fun good va F G hB hret hvret hP => by
  obtain ⟨rfl, rfl, rfl⟩ := hP
  have l0 : ∀ (n : Nat) (x1 : Int) (x2 : Int) (x3 : Int) (g0 : (Int → Int)) (q : (Int → Int)), zf_Arrays_fill_24_l0 x1 x3 n x2 g0 = some q → (good 20 [.inr 1000, .inr 1000, .inr 1000, .inr 1000] [] [] [q]) → good 5 [.inr 0, .inl x1, .inl x2, .inl x3] [] [] [g0] := by
    intro n
    induction n with
    | zero => intro x1 x2 x3 g0 q h; exact absurd (show none = some q from h) (fun h => by cases h)
    | succ n ih =>
      intro x1 x2 x3 g0 q h hK
      replace h : zf_Arrays_fill_24_l0_b x1 x3 (zf_Arrays_fill_24_l0 x1 x3 n) x2 g0 = some q := h
      unfold zf_Arrays_fill_24_l0_b at h
      refine zv_ild hB zd78_5 rfl rfl ?_
      refine zv_ild hB zd78_6 rfl rfl ?_
      refine zv_cge hB zd78_7 rfl (fun hc1 => ?_) (fun hc1 => ?_)
      · rw [if_neg (Int.not_lt.mpr hc1)] at h
        have hq := Option.some.inj h
        subst hq
        refine zv_wk hB (L' := [.inr 1000, .inr 1000, .inr 1000, .inr 1000]) (F' := []) ⟨fun (h : zv_is (.inr 1000)) => (Nat.lt_irrefl 1000 h).elim, fun (h : zv_is (.inr 1000)) => (Nat.lt_irrefl 1000 h).elim, fun (h : zv_is (.inr 1000)) => (Nat.lt_irrefl 1000 h).elim, fun (h : zv_is (.inr 1000)) => (Nat.lt_irrefl 1000 h).elim, trivial⟩ trivial ?_
        exact hK
      · rw [if_pos hc1] at h
        refine zv_ald hB zd78_10 rfl rfl rfl ?_
        refine zv_ild hB zd78_11 rfl rfl ?_
        refine zv_ild hB zd78_12 rfl rfl ?_
        obtain ⟨c2, h⟩ := zi_if h
        refine zv_iast hB zd78_13 rfl rfl (zi_ix_ok c2).1 (zi_ix_ok c2).2 ?_
        refine zv_iincw hB zd78_14 rfl rfl ?_
        refine zv_goto hB zd78_17 rfl ?_
        exact ih _ _ _ _ q h hK
  unfold zf_Arrays_fill_24 at h
  refine zv_con hB zd78_0 rfl ?_
  refine zv_ist hB zd78_1 rfl rfl rfl ?_
  refine zv_ald hB zd78_2 rfl rfl rfl ?_
  refine zv_alen (v := 24) hB zd78_3 rfl rfl rfl rfl ?_
  refine zv_ist hB zd78_4 rfl rfl rfl ?_
  obtain ⟨q3, hq3, h⟩ := zi_bind h
  refine l0 _ _ _ _ _ q3 hq3 ?_
  show good 20 [.inr 1000, .inr 1000, .inr 1000, .inr 1000] [] [] [q3]
  have hw := Option.some.inj h
  subst hw
  exact hvret _ _ _ _ zd78_20 trivial ⟨rfl, rfl, rfl⟩
/-! View_open (LStarTales$Sky;LStarTales$Law;)V -/
-- names: 0 View('arg', 0), 1 Sky('arg', 1), 2 Law('arg', 2), 3 (0, 24)(0, 7, 8)
-- fields: f0 = 0.sky_, f1 = 0.law_, f2 = 0.starsAsked_; arrays: g0 = 3; out: [('f', 2), ('g', 0)]
abbrev zy_View_open : zNL := (4, [(0, 7), (1, 1), (2, 4)], [(0, 7, 0, 0), (0, 7, 1, 1), (0, 7, 6, 2)], [(0, 7, 8, 3)], [(3, 0, 24, 0)])
theorem zyw_View_open : zv_wf zy_View_open = true := by decide +kernel
theorem zye_View_open : zv_ek2 zy_View_open = true := by decide +kernel
def zf_View_open (f2 : Int) (g0 : (Int → Int)) : Option (Int × (Int → Int)) := (zf_Arrays_fill_24 0 g0).bind fun r1 => (some (0, r1))
theorem zd84_0 : decode zxm84.2.1 0 = .ok (.aload_n 0, 1) := by decide +kernel
theorem zd84_1 : decode zxm84.2.1 1 = .ok (.aload_n 1, 1) := by decide +kernel
theorem zd84_2 : decode zxm84.2.1 2 = .ok (.putfield 37, 3) := by decide +kernel
theorem zd84_5 : decode zxm84.2.1 5 = .ok (.aload_n 0, 1) := by decide +kernel
theorem zd84_6 : decode zxm84.2.1 6 = .ok (.aload_n 2, 1) := by decide +kernel
theorem zd84_7 : decode zxm84.2.1 7 = .ok (.putfield 41, 3) := by decide +kernel
theorem zd84_10 : decode zxm84.2.1 10 = .ok (.aload_n 0, 1) := by decide +kernel
theorem zd84_11 : decode zxm84.2.1 11 = .ok (.iconst 0, 1) := by decide +kernel
theorem zd84_12 : decode zxm84.2.1 12 = .ok (.putfield 25, 3) := by decide +kernel
theorem zd84_15 : decode zxm84.2.1 15 = .ok (.aload_n 0, 1) := by decide +kernel
theorem zd84_16 : decode zxm84.2.1 16 = .ok (.getfield 31, 3) := by decide +kernel
theorem zd84_19 : decode zxm84.2.1 19 = .ok (.iconst 0, 1) := by decide +kernel
theorem zd84_20 : decode zxm84.2.1 20 = .ok (.invokestatic 45, 3) := by decide +kernel
theorem zd84_23 : decode zxm84.2.1 23 = .ok (.return_, 1) := by decide +kernel
theorem zt_View_open {f2 : Int} {g0 : (Int → Int)} {o : Int × (Int → Int)} (h : zf_View_open f2 g0 = some o) : zv_Fn z_TB z_cl z_KX zy_View_open zxm84 (1, 60) [.inr 0, .inr 1, .inr 2] [.inr 1000, .inr 1000, .inl f2] [g0] none [.inr 1, .inr 2, .inl o.1] [o.2] := zv_meth (K := (z_KF11, z_KC11, z_KL11, z_KT11, [], [], [], none)) (FT := z_FT) (MT := z_MT) (n := 3) zxp84 (z_ks11 _ (fun _ h => List.mem_cons_of_mem _ h) _ _ _ _ (fun j r h _ => by cases h)) (fun _ _ => zs_KX_p) zyw_View_open (fun va F G h => by obtain ⟨rfl, _⟩ := h; rfl) (fun va F G h => by obtain ⟨rfl, _⟩ := h; rfl) rfl fun good va F G hB hret hvret hP => by
  obtain ⟨rfl, rfl, rfl⟩ := hP
  unfold zf_View_open at h
  refine zv_ald hB zd84_0 rfl rfl rfl ?_
  refine zv_ald hB zd84_1 rfl rfl rfl ?_
  refine zv_putq hB zd84_2 rfl rfl (by decide) rfl ?_
  refine zv_ald hB zd84_5 rfl rfl rfl ?_
  refine zv_ald hB zd84_6 rfl rfl rfl ?_
  refine zv_putq hB zd84_7 rfl rfl (by decide) rfl ?_
  refine zv_ald hB zd84_10 rfl rfl rfl ?_
  refine zv_con hB zd84_11 rfl ?_
  refine zv_putf hB zd84_12 rfl rfl (fun h => by cases h) rfl ?_
  refine zv_ald hB zd84_15 rfl rfl rfl ?_
  refine zv_getr hB zd84_16 rfl ?_
  refine zv_con hB zd84_19 rfl ?_
  obtain ⟨r1, hr1, h⟩ := zi_bind h
  refine zv_cs hB (zv_emq (va2 := [.inr 3, .inl 0]) (F := [.inr 1, .inr 2, .inl 0]) (F' := [.inr 1, .inr 2, .inl 0]) (G := [g0]) (G' := [r1]) (ρ := [3]) (φ := []) (ψ := [0]) [none, none, none] [some 0] zyw_Arrays_fill_24 zyw_View_open zye_View_open (by decide +kernel) (zt_Arrays_fill_24 hr1) trivial ⟨rfl, trivial⟩ rfl rfl rfl rfl rfl rfl rfl) zd84_20 zxt78 rfl (by decide) (by decide) rfl ?_
  have hw := Option.some.inj h
  subst hw
  exact hvret _ _ _ _ zd84_23 trivial ⟨rfl, rfl, rfl⟩
/-! Arrays_fill_13 ([II)V -/
-- names: 0 (0, 13)('arg', 0)
-- fields: ; arrays: g0 = 0; out: [('g', 0)]
abbrev zy_Arrays_fill_13 : zNL := (1, [], [], [], [(0, 0, 13, 0)])
theorem zyw_Arrays_fill_13 : zv_wf zy_Arrays_fill_13 = true := by decide +kernel
theorem zye_Arrays_fill_13 : zv_ek2 zy_Arrays_fill_13 = true := by decide +kernel
def zf_Arrays_fill_13_l0_b (x1 : Int) (x3 : Int) (rec : Int → (Int → Int) → Option ((Int → Int))) (x2 : Int) (g0 : (Int → Int)) : Option ((Int → Int)) := if x2 < x3 then (cond (zi_ix x2 13) (rec (zi_w (x2 + 1)) (zv_up g0 x2 x1)) none) else (some g0)
def zf_Arrays_fill_13_l0 (x1 : Int) (x3 : Int) : Nat → Int → (Int → Int) → Option ((Int → Int))
  | 0, _, _ => none
  | n + 1, x2, g0 => zf_Arrays_fill_13_l0_b x1 x3 (zf_Arrays_fill_13_l0 x1 x3 n) x2 g0
def zf_Arrays_fill_13 (x1 : Int) (g0 : (Int → Int)) : Option ((Int → Int)) := (zf_Arrays_fill_13_l0 x1 13 zi_fu 0 g0).bind fun q3 => (some q3)
theorem zt_Arrays_fill_13 {x1 : Int} {g0 : (Int → Int)} {o : (Int → Int)} (h : zf_Arrays_fill_13 x1 g0 = some o) : zv_Fn z_TB z_cl z_KX zy_Arrays_fill_13 zxm78 (0, 0) [.inr 0, .inl x1] [] [g0] none [] [o] := zv_meth (K := (z_KF20, z_KC20, z_KL20, z_KT20, [], [], [], none)) (FT := z_FT) (MT := z_MT) (n := 2) zxp78 (z_ks20 _ (fun _ h => List.mem_cons_of_mem _ h) _ _ _ _ (fun j r h _ => by cases h)) (fun _ _ => zs_KX_p) zyw_Arrays_fill_13 (fun va F G h => by obtain ⟨rfl, _⟩ := h; rfl) (fun va F G h => by obtain ⟨rfl, _⟩ := h; rfl) rfl fun good va F G hB hret hvret hP => by
  obtain ⟨rfl, rfl, rfl⟩ := hP
  have l0 : ∀ (n : Nat) (x1 : Int) (x2 : Int) (x3 : Int) (g0 : (Int → Int)) (q : (Int → Int)), zf_Arrays_fill_13_l0 x1 x3 n x2 g0 = some q → (good 20 [.inr 1000, .inr 1000, .inr 1000, .inr 1000] [] [] [q]) → good 5 [.inr 0, .inl x1, .inl x2, .inl x3] [] [] [g0] := by
    intro n
    induction n with
    | zero => intro x1 x2 x3 g0 q h; exact absurd (show none = some q from h) (fun h => by cases h)
    | succ n ih =>
      intro x1 x2 x3 g0 q h hK
      replace h : zf_Arrays_fill_13_l0_b x1 x3 (zf_Arrays_fill_13_l0 x1 x3 n) x2 g0 = some q := h
      unfold zf_Arrays_fill_13_l0_b at h
      refine zv_ild hB zd78_5 rfl rfl ?_
      refine zv_ild hB zd78_6 rfl rfl ?_
      refine zv_cge hB zd78_7 rfl (fun hc1 => ?_) (fun hc1 => ?_)
      · rw [if_neg (Int.not_lt.mpr hc1)] at h
        have hq := Option.some.inj h
        subst hq
        refine zv_wk hB (L' := [.inr 1000, .inr 1000, .inr 1000, .inr 1000]) (F' := []) ⟨fun (h : zv_is (.inr 1000)) => (Nat.lt_irrefl 1000 h).elim, fun (h : zv_is (.inr 1000)) => (Nat.lt_irrefl 1000 h).elim, fun (h : zv_is (.inr 1000)) => (Nat.lt_irrefl 1000 h).elim, fun (h : zv_is (.inr 1000)) => (Nat.lt_irrefl 1000 h).elim, trivial⟩ trivial ?_
        exact hK
      · rw [if_pos hc1] at h
        refine zv_ald hB zd78_10 rfl rfl rfl ?_
        refine zv_ild hB zd78_11 rfl rfl ?_
        refine zv_ild hB zd78_12 rfl rfl ?_
        obtain ⟨c2, h⟩ := zi_if h
        refine zv_iast hB zd78_13 rfl rfl (zi_ix_ok c2).1 (zi_ix_ok c2).2 ?_
        refine zv_iincw hB zd78_14 rfl rfl ?_
        refine zv_goto hB zd78_17 rfl ?_
        exact ih _ _ _ _ q h hK
  unfold zf_Arrays_fill_13 at h
  refine zv_con hB zd78_0 rfl ?_
  refine zv_ist hB zd78_1 rfl rfl rfl ?_
  refine zv_ald hB zd78_2 rfl rfl rfl ?_
  refine zv_alen (v := 13) hB zd78_3 rfl rfl rfl rfl ?_
  refine zv_ist hB zd78_4 rfl rfl rfl ?_
  obtain ⟨q3, hq3, h⟩ := zi_bind h
  refine l0 _ _ _ _ _ q3 hq3 ?_
  show good 20 [.inr 1000, .inr 1000, .inr 1000, .inr 1000] [] [] [q3]
  have hw := Option.some.inj h
  subst hw
  exact hvret _ _ _ _ zd78_20 trivial ⟨rfl, rfl, rfl⟩
/-! Law_forgetLetters ()V -/
-- names: 0 Law('arg', 0), 1 (0, 13)(0, 4, 12)
-- fields: ; arrays: g0 = 1; out: [('g', 0)]
abbrev zy_Law_forgetLetters : zNL := (2, [(0, 4)], [], [(0, 4, 12, 1)], [(1, 0, 13, 0)])
theorem zyw_Law_forgetLetters : zv_wf zy_Law_forgetLetters = true := by decide +kernel
theorem zye_Law_forgetLetters : zv_ek2 zy_Law_forgetLetters = true := by decide +kernel
def zf_Law_forgetLetters (g0 : (Int → Int)) : Option ((Int → Int)) := (zf_Arrays_fill_13 0 g0).bind fun r1 => (some r1)
theorem zd87_0 : decode zxm87.2.1 0 = .ok (.aload_n 0, 1) := by decide +kernel
theorem zd87_1 : decode zxm87.2.1 1 = .ok (.getfield 56, 3) := by decide +kernel
theorem zd87_4 : decode zxm87.2.1 4 = .ok (.iconst 0, 1) := by decide +kernel
theorem zd87_5 : decode zxm87.2.1 5 = .ok (.invokestatic 69, 3) := by decide +kernel
theorem zd87_8 : decode zxm87.2.1 8 = .ok (.return_, 1) := by decide +kernel
theorem zt_Law_forgetLetters {g0 : (Int → Int)} {o : (Int → Int)} (h : zf_Law_forgetLetters g0 = some o) : zv_Fn z_TB z_cl z_KX zy_Law_forgetLetters zxm87 (1, 60) [.inr 0] [] [g0] none [] [o] := zv_meth (K := (z_KF2, z_KC2, z_KL2, z_KT2, [], [], [], none)) (FT := z_FT) (MT := z_MT) (n := 1) zxp87 (z_ks2 _ (fun _ h => List.mem_cons_of_mem _ h) _ _ _ _ (fun j r h _ => by cases h)) (fun _ _ => zs_KX_p) zyw_Law_forgetLetters (fun va F G h => by obtain ⟨rfl, _⟩ := h; rfl) (fun va F G h => by obtain ⟨rfl, _⟩ := h; rfl) rfl fun good va F G hB hret hvret hP => by
  obtain ⟨rfl, rfl, rfl⟩ := hP
  unfold zf_Law_forgetLetters at h
  refine zv_ald hB zd87_0 rfl rfl rfl ?_
  refine zv_getr hB zd87_1 rfl ?_
  refine zv_con hB zd87_4 rfl ?_
  obtain ⟨r1, hr1, h⟩ := zi_bind h
  refine zv_cs hB (zv_emq (va2 := [.inr 1, .inl 0]) (F := []) (F' := []) (G := [g0]) (G' := [r1]) (ρ := [1]) (φ := []) (ψ := [0]) [] [some 0] zyw_Arrays_fill_13 zyw_Law_forgetLetters zye_Law_forgetLetters (by decide +kernel) (zt_Arrays_fill_13 hr1) trivial ⟨rfl, trivial⟩ rfl rfl rfl rfl rfl rfl rfl) zd87_5 zxt78 rfl (by decide) (by decide) rfl ?_
  have hw := Option.some.inj h
  subst hw
  exact hvret _ _ _ _ zd87_8 trivial ⟨rfl, rfl, rfl⟩
/-! Law_setTime (LStarTales$Sky;)V -/
-- names: 0 Law('arg', 0), 1 Sky('arg', 1), 2 (0, 13)(0, 4, 12)
-- fields: f0 = 1.hour_, f1 = 1.night_; arrays: g0 = 2; out: [('g', 0)]
abbrev zy_Law_setTime : zNL := (3, [(0, 4), (1, 1)], [(1, 1, 6, 0), (1, 1, 7, 1)], [(0, 4, 12, 2)], [(2, 0, 13, 0)])
theorem zyw_Law_setTime : zv_wf zy_Law_setTime = true := by decide +kernel
theorem zye_Law_setTime : zv_ek2 zy_Law_setTime = true := by decide +kernel
def zf_Law_setTime (f0 : Int) (f1 : Int) (g0 : (Int → Int)) : Option ((Int → Int)) := some (zv_up (zv_up g0 0 f0) 1 f1)
theorem zd88_0 : decode zxm88.2.1 0 = .ok (.aload_n 0, 1) := by decide +kernel
theorem zd88_1 : decode zxm88.2.1 1 = .ok (.getfield 56, 3) := by decide +kernel
theorem zd88_4 : decode zxm88.2.1 4 = .ok (.iconst 0, 1) := by decide +kernel
theorem zd88_5 : decode zxm88.2.1 5 = .ok (.aload_n 1, 1) := by decide +kernel
theorem zd88_6 : decode zxm88.2.1 6 = .ok (.getfield 75, 3) := by decide +kernel
theorem zd88_9 : decode zxm88.2.1 9 = .ok (.iastore, 1) := by decide +kernel
theorem zd88_10 : decode zxm88.2.1 10 = .ok (.aload_n 0, 1) := by decide +kernel
theorem zd88_11 : decode zxm88.2.1 11 = .ok (.getfield 56, 3) := by decide +kernel
theorem zd88_14 : decode zxm88.2.1 14 = .ok (.iconst 1, 1) := by decide +kernel
theorem zd88_15 : decode zxm88.2.1 15 = .ok (.aload_n 1, 1) := by decide +kernel
theorem zd88_16 : decode zxm88.2.1 16 = .ok (.getfield 80, 3) := by decide +kernel
theorem zd88_19 : decode zxm88.2.1 19 = .ok (.iastore, 1) := by decide +kernel
theorem zd88_20 : decode zxm88.2.1 20 = .ok (.return_, 1) := by decide +kernel
theorem zt_Law_setTime {f0 : Int} {f1 : Int} {g0 : (Int → Int)} {o : (Int → Int)} (h : zf_Law_setTime f0 f1 g0 = some o) : zv_Fn z_TB z_cl z_KX zy_Law_setTime zxm88 (0, 0) [.inr 0, .inr 1] [.inl f0, .inl f1] [g0] none [.inl f0, .inl f1] [o] := zv_meth (K := (z_KF2, z_KC2, z_KL2, z_KT2, [], [], [], none)) (FT := z_FT) (MT := z_MT) (n := 2) zxp88 (z_ks2 _ (fun _ h => List.mem_cons_of_mem _ h) _ _ _ _ (fun j r h _ => by cases h)) (fun _ _ => zs_KX_p) zyw_Law_setTime (fun va F G h => by obtain ⟨rfl, _⟩ := h; rfl) (fun va F G h => by obtain ⟨rfl, _⟩ := h; rfl) rfl fun good va F G hB hret hvret hP => by
  obtain ⟨rfl, rfl, rfl⟩ := hP
  unfold zf_Law_setTime at h
  refine zv_ald hB zd88_0 rfl rfl rfl ?_
  refine zv_getr hB zd88_1 rfl ?_
  refine zv_con hB zd88_4 rfl ?_
  refine zv_ald hB zd88_5 rfl rfl rfl ?_
  refine zv_getf hB zd88_6 rfl rfl (fun _ _ => ?_)
  refine zv_iast hB zd88_9 rfl rfl (by decide) (by decide) ?_
  refine zv_ald hB zd88_10 rfl rfl rfl ?_
  refine zv_getr hB zd88_11 rfl ?_
  refine zv_con hB zd88_14 rfl ?_
  refine zv_ald hB zd88_15 rfl rfl rfl ?_
  refine zv_getf hB zd88_16 rfl rfl (fun _ _ => ?_)
  refine zv_iast hB zd88_19 rfl rfl (by decide) (by decide) ?_
  have hw := Option.some.inj h
  subst hw
  exact hvret _ _ _ _ zd88_20 trivial ⟨rfl, rfl, rfl⟩
end
section
/-! Methods as functions, and that they do what these do. -/
/-! View_goTo (II)V -/
-- names: 0 View('arg', 0), 1 Law(0, 7, 1), 2 (0, 13)(1, 4, 12), 3 Sky(0, 7, 0)
-- fields: f0 = 0.x_, f1 = 0.y_, f2 = 0.law_, f3 = 0.sky_, f4 = 3.hour_, f5 = 3.night_; arrays: g0 = 2; out: [('f', 0), ('f', 1), ('g', 0)]
abbrev zy_View_goTo : zNL := (4, [(0, 7), (1, 4), (3, 1)], [(0, 7, 2, 0), (0, 7, 3, 1), (0, 7, 1, 2), (0, 7, 0, 3), (3, 1, 6, 4), (3, 1, 7, 5)], [(1, 4, 12, 2)], [(2, 0, 13, 0)])
theorem zyw_View_goTo : zv_wf zy_View_goTo = true := by decide +kernel
theorem zye_View_goTo : zv_ek2 zy_View_goTo = true := by decide +kernel
def zf_View_goTo (x1 : Int) (x2 : Int) (f0 : Int) (f1 : Int) (f4 : Int) (f5 : Int) (g0 : (Int → Int)) : Option (Int × Int × (Int → Int)) := (zf_Law_forgetLetters g0).bind fun r1 => ((zf_Law_setTime f4 f5 r1).bind fun r2 => (some (x1, x2, (zv_up (zv_up r2 10 x1) 11 x2))))
theorem zd86_0 : decode zxm86.2.1 0 = .ok (.aload_n 0, 1) := by decide +kernel
theorem zd86_1 : decode zxm86.2.1 1 = .ok (.iload_n 1, 1) := by decide +kernel
theorem zd86_2 : decode zxm86.2.1 2 = .ok (.putfield 9, 3) := by decide +kernel
theorem zd86_5 : decode zxm86.2.1 5 = .ok (.aload_n 0, 1) := by decide +kernel
theorem zd86_6 : decode zxm86.2.1 6 = .ok (.iload_n 2, 1) := by decide +kernel
theorem zd86_7 : decode zxm86.2.1 7 = .ok (.putfield 15, 3) := by decide +kernel
theorem zd86_10 : decode zxm86.2.1 10 = .ok (.aload_n 0, 1) := by decide +kernel
theorem zd86_11 : decode zxm86.2.1 11 = .ok (.getfield 41, 3) := by decide +kernel
theorem zd86_14 : decode zxm86.2.1 14 = .ok (.invokevirtual 51, 3) := by decide +kernel
theorem zd86_17 : decode zxm86.2.1 17 = .ok (.aload_n 0, 1) := by decide +kernel
theorem zd86_18 : decode zxm86.2.1 18 = .ok (.getfield 41, 3) := by decide +kernel
theorem zd86_21 : decode zxm86.2.1 21 = .ok (.aload_n 0, 1) := by decide +kernel
theorem zd86_22 : decode zxm86.2.1 22 = .ok (.getfield 37, 3) := by decide +kernel
theorem zd86_25 : decode zxm86.2.1 25 = .ok (.invokevirtual 56, 3) := by decide +kernel
theorem zd86_28 : decode zxm86.2.1 28 = .ok (.aload_n 0, 1) := by decide +kernel
theorem zd86_29 : decode zxm86.2.1 29 = .ok (.getfield 41, 3) := by decide +kernel
theorem zd86_32 : decode zxm86.2.1 32 = .ok (.getfield 60, 3) := by decide +kernel
theorem zd86_35 : decode zxm86.2.1 35 = .ok (.bipush 10, 2) := by decide +kernel
theorem zd86_37 : decode zxm86.2.1 37 = .ok (.iload_n 1, 1) := by decide +kernel
theorem zd86_38 : decode zxm86.2.1 38 = .ok (.iastore, 1) := by decide +kernel
theorem zd86_39 : decode zxm86.2.1 39 = .ok (.aload_n 0, 1) := by decide +kernel
theorem zd86_40 : decode zxm86.2.1 40 = .ok (.getfield 41, 3) := by decide +kernel
theorem zd86_43 : decode zxm86.2.1 43 = .ok (.getfield 60, 3) := by decide +kernel
theorem zd86_46 : decode zxm86.2.1 46 = .ok (.bipush 11, 2) := by decide +kernel
theorem zd86_48 : decode zxm86.2.1 48 = .ok (.iload_n 2, 1) := by decide +kernel
theorem zd86_49 : decode zxm86.2.1 49 = .ok (.iastore, 1) := by decide +kernel
theorem zd86_50 : decode zxm86.2.1 50 = .ok (.return_, 1) := by decide +kernel
theorem zt_View_goTo {x1 : Int} {x2 : Int} {f0 : Int} {f1 : Int} {f4 : Int} {f5 : Int} {g0 : (Int → Int)} {o : Int × Int × (Int → Int)} (h : zf_View_goTo x1 x2 f0 f1 f4 f5 g0 = some o) : zv_Fn z_TB z_cl z_KX zy_View_goTo zxm86 (2, 120) [.inr 0, .inl x1, .inl x2] [.inl f0, .inl f1, .inr 1, .inr 3, .inl f4, .inl f5] [g0] none [.inl o.1, .inl o.2.1, .inr 1, .inr 3, .inl f4, .inl f5] [o.2.2] := zv_meth (K := (z_KF11, z_KC11, z_KL11, z_KT11, [], [], [], none)) (FT := z_FT) (MT := z_MT) (n := 3) zxp86 (z_ks11 _ (fun _ h => List.mem_cons_of_mem _ h) _ _ _ _ (fun j r h _ => by cases h)) (fun _ _ => zs_KX_p) zyw_View_goTo (fun va F G h => by obtain ⟨rfl, _⟩ := h; rfl) (fun va F G h => by obtain ⟨rfl, _⟩ := h; rfl) rfl fun good va F G hB hret hvret hP => by
  obtain ⟨rfl, rfl, rfl⟩ := hP
  unfold zf_View_goTo at h
  refine zv_ald hB zd86_0 rfl rfl rfl ?_
  refine zv_ild hB zd86_1 rfl rfl ?_
  refine zv_putf hB zd86_2 rfl rfl (fun h => by cases h) rfl ?_
  refine zv_ald hB zd86_5 rfl rfl rfl ?_
  refine zv_ild hB zd86_6 rfl rfl ?_
  refine zv_putf hB zd86_7 rfl rfl (fun h => by cases h) rfl ?_
  refine zv_ald hB zd86_10 rfl rfl rfl ?_
  refine zv_getq hB zd86_11 rfl rfl rfl ?_
  obtain ⟨r1, hr1, h⟩ := zi_bind h
  refine zv_cv hB (zv_emq (va2 := [.inr 1]) (F := [.inl x1, .inl x2, .inr 1, .inr 3, .inl f4, .inl f5]) (F' := [.inl x1, .inl x2, .inr 1, .inr 3, .inl f4, .inl f5]) (G := [g0]) (G' := [r1]) (ρ := [1, 2]) (φ := []) (ψ := [0]) [none, none, none, none, none, none] [some 0] zyw_Law_forgetLetters zyw_View_goTo zye_View_goTo (by decide +kernel) (zt_Law_forgetLetters hr1) trivial ⟨rfl, trivial⟩ rfl rfl rfl rfl rfl rfl rfl) zd86_14 zxt87 rfl (by decide) (by decide) rfl ?_
  refine zv_ald hB zd86_17 rfl rfl rfl ?_
  refine zv_getq hB zd86_18 rfl rfl rfl ?_
  refine zv_ald hB zd86_21 rfl rfl rfl ?_
  refine zv_getq hB zd86_22 rfl rfl rfl ?_
  obtain ⟨r2, hr2, h⟩ := zi_bind h
  refine zv_cv hB (zv_emq (va2 := [.inr 1, .inr 3]) (F := [.inl x1, .inl x2, .inr 1, .inr 3, .inl f4, .inl f5]) (F' := [.inl x1, .inl x2, .inr 1, .inr 3, .inl f4, .inl f5]) (G := [r1]) (G' := [r2]) (ρ := [1, 3, 2]) (φ := [4, 5]) (ψ := [0]) [none, none, none, none, some 0, some 1] [some 0] zyw_Law_setTime zyw_View_goTo zye_View_goTo (by decide +kernel) (zt_Law_setTime hr2) ⟨⟨_, rfl, fun _ => rfl⟩, ⟨_, rfl, fun _ => rfl⟩, trivial⟩ ⟨rfl, trivial⟩ rfl rfl rfl rfl rfl rfl rfl) zd86_25 zxt88 rfl (by decide) (by decide) rfl ?_
  refine zv_ald hB zd86_28 rfl rfl rfl ?_
  refine zv_getq hB zd86_29 rfl rfl rfl ?_
  refine zv_getr hB zd86_32 rfl ?_
  refine zv_con hB zd86_35 rfl ?_
  refine zv_ild hB zd86_37 rfl rfl ?_
  refine zv_iast hB zd86_38 rfl rfl (by decide) (by decide) ?_
  refine zv_ald hB zd86_39 rfl rfl rfl ?_
  refine zv_getq hB zd86_40 rfl rfl rfl ?_
  refine zv_getr hB zd86_43 rfl ?_
  refine zv_con hB zd86_46 rfl ?_
  refine zv_ild hB zd86_48 rfl rfl ?_
  refine zv_iast hB zd86_49 rfl rfl (by decide) (by decide) ?_
  have hw := Option.some.inj h
  subst hw
  exact hvret _ _ _ _ zd86_50 trivial ⟨rfl, rfl, rfl⟩
/-! Math_abs (I)I -/
-- names: 
-- fields: ; arrays: ; out: [('ret', None)]
abbrev zy_Math_abs : zNL := (0, [], [], [], [])
theorem zyw_Math_abs : zv_wf zy_Math_abs = true := by decide +kernel
theorem zye_Math_abs : zv_ek2 zy_Math_abs = true := by decide +kernel
def zf_Math_abs (x0 : Int) : Option (Int) := if x0 < 0 then (some (zi_w (-x0))) else (some x0)
theorem zd91_0 : decode zxm91.2.1 0 = .ok (.iload_n 0, 1) := by decide +kernel
theorem zd91_1 : decode zxm91.2.1 1 = .ok (.ifCond .ge 8, 3) := by decide +kernel
theorem zd91_4 : decode zxm91.2.1 4 = .ok (.iload_n 0, 1) := by decide +kernel
theorem zd91_5 : decode zxm91.2.1 5 = .ok (.ineg, 1) := by decide +kernel
theorem zd91_6 : decode zxm91.2.1 6 = .ok (.goto 4, 3) := by decide +kernel
theorem zd91_9 : decode zxm91.2.1 9 = .ok (.iload_n 0, 1) := by decide +kernel
theorem zd91_10 : decode zxm91.2.1 10 = .ok (.ireturn, 1) := by decide +kernel
theorem zt_Math_abs {x0 : Int} {o : Int} (h : zf_Math_abs x0 = some o) : zv_Fn z_TB z_cl z_KX zy_Math_abs zxm91 (0, 0) [.inl x0] [] [] (some o) [] [] := zv_meth (K := (z_KF16, z_KC16, z_KL16, z_KT16, [], [], [], none)) (FT := z_FT) (MT := z_MT) (n := 1) zxp91 (z_ks16 _ (fun _ h => List.mem_cons_of_mem _ h) _ _ _ _ (fun j r h _ => by cases h)) (fun _ _ => zs_KX_p) zyw_Math_abs (fun va F G h => by obtain ⟨rfl, _⟩ := h; rfl) (fun va F G h => by obtain ⟨rfl, _⟩ := h; rfl) rfl fun good va F G hB hret hvret hP => by
  obtain ⟨rfl, rfl, rfl⟩ := hP
  unfold zf_Math_abs at h
  refine zv_ild hB zd91_0 rfl rfl ?_
  refine zv_zge hB zd91_1 rfl (fun hc1 => ?_) (fun hc1 => ?_)
  · rw [if_neg (Int.not_lt.mpr hc1)] at h
    refine zv_ild hB zd91_9 rfl rfl ?_
    have hw := Option.some.inj h
    subst hw
    exact hret _ _ _ _ _ zd91_10 (by trivial) ⟨rfl, rfl, rfl⟩
  · rw [if_pos hc1] at h
    refine zv_ild hB zd91_4 rfl rfl ?_
    refine zv_negw hB zd91_5 ?_
    refine zv_goto hB zd91_6 rfl ?_
    have hw := Option.some.inj h
    subst hw
    exact hret _ _ _ _ _ zd91_10 (by trivial) ⟨rfl, rfl, rfl⟩
/-! X_columnsBetween (II)I -/
-- names: 
-- fields: ; arrays: ; out: [('ret', None)]
abbrev zy_X_columnsBetween : zNL := (0, [], [], [], [])
theorem zyw_X_columnsBetween : zv_wf zy_X_columnsBetween = true := by decide +kernel
theorem zye_X_columnsBetween : zv_ek2 zy_X_columnsBetween = true := by decide +kernel
def zf_X_columnsBetween (x0 : Int) (x1 : Int) : Option (Int) := (zf_Math_abs (zi_w (x0 - x1))).bind fun r1 => ((zf_Math_min r1 (zi_w (24 - r1))).bind fun r2 => (some r2))
theorem zd90_0 : decode zxm90.2.1 0 = .ok (.iload_n 0, 1) := by decide +kernel
theorem zd90_1 : decode zxm90.2.1 1 = .ok (.iload_n 1, 1) := by decide +kernel
theorem zd90_2 : decode zxm90.2.1 2 = .ok (.isub, 1) := by decide +kernel
theorem zd90_3 : decode zxm90.2.1 3 = .ok (.invokestatic 426, 3) := by decide +kernel
theorem zd90_6 : decode zxm90.2.1 6 = .ok (.istore_n 2, 1) := by decide +kernel
theorem zd90_7 : decode zxm90.2.1 7 = .ok (.iload_n 2, 1) := by decide +kernel
theorem zd90_8 : decode zxm90.2.1 8 = .ok (.bipush 24, 2) := by decide +kernel
theorem zd90_10 : decode zxm90.2.1 10 = .ok (.iload_n 2, 1) := by decide +kernel
theorem zd90_11 : decode zxm90.2.1 11 = .ok (.isub, 1) := by decide +kernel
theorem zd90_12 : decode zxm90.2.1 12 = .ok (.invokestatic 429, 3) := by decide +kernel
theorem zd90_15 : decode zxm90.2.1 15 = .ok (.ireturn, 1) := by decide +kernel
theorem zt_X_columnsBetween {x0 : Int} {x1 : Int} {o : Int} (h : zf_X_columnsBetween x0 x1 = some o) : zv_Fn z_TB z_cl z_KX zy_X_columnsBetween zxm90 (1, 60) [.inl x0, .inl x1] [] [] (some o) [] [] := zv_meth (K := (z_KF0, z_KC0, z_KL0, z_KT0, [], [], [], none)) (FT := z_FT) (MT := z_MT) (n := 2) zxp90 (z_ks0 _ (fun _ h => List.mem_cons_of_mem _ h) _ _ _ _ (fun j r h _ => by cases h)) (fun _ _ => zs_KX_p) zyw_X_columnsBetween (fun va F G h => by obtain ⟨rfl, _⟩ := h; rfl) (fun va F G h => by obtain ⟨rfl, _⟩ := h; rfl) rfl fun good va F G hB hret hvret hP => by
  obtain ⟨rfl, rfl, rfl⟩ := hP
  unfold zf_X_columnsBetween at h
  refine zv_ild hB zd90_0 rfl rfl ?_
  refine zv_ild hB zd90_1 rfl rfl ?_
  refine zv_subw hB zd90_2 ?_
  obtain ⟨r1, hr1, h⟩ := zi_bind h
  refine zv_cs hB (zv_emq (va2 := [.inl (zi_w (x0 - x1))]) (F := []) (F' := []) (G := []) (G' := []) (ρ := []) (φ := []) (ψ := []) [] [] zyw_Math_abs zyw_X_columnsBetween zye_X_columnsBetween (by decide +kernel) (zt_Math_abs hr1) trivial trivial rfl rfl rfl rfl rfl rfl rfl) zd90_3 zxt91 rfl (by decide) (by decide) rfl ?_
  refine zv_ist hB zd90_6 rfl rfl rfl ?_
  refine zv_ild hB zd90_7 rfl rfl ?_
  refine zv_con hB zd90_8 rfl ?_
  refine zv_ild hB zd90_10 rfl rfl ?_
  refine zv_subw hB zd90_11 ?_
  obtain ⟨r2, hr2, h⟩ := zi_bind h
  refine zv_cs hB (zv_emq (va2 := [.inl r1, .inl (zi_w (24 - r1))]) (F := []) (F' := []) (G := []) (G' := []) (ρ := []) (φ := []) (ψ := []) [] [] zyw_Math_min zyw_X_columnsBetween zye_X_columnsBetween (by decide +kernel) (zt_Math_min hr2) trivial trivial rfl rfl rfl rfl rfl rfl rfl) zd90_12 zxt37 rfl (by decide) (by decide) rfl ?_
  have hw := Option.some.inj h
  subst hw
  exact hret _ _ _ _ _ zd90_15 (by trivial) ⟨rfl, rfl, rfl⟩
/-! Law_setStar (LStarTales$Sky;I)V -/
-- names: 0 Law('arg', 0), 1 Sky('arg', 1), 2 (0, 13)(0, 4, 12), 3 (0, 24)(1, 1, 3), 4 (0, 24)(1, 1, 2), 5 (0, 24)(1, 1, 1)
-- fields: f0 = 1.hour_; arrays: g0 = 2, g1 = 3, g2 = 4, g3 = 5; out: [('g', 0)]
abbrev zy_Law_setStar : zNL := (6, [(0, 4), (1, 1)], [(1, 1, 6, 0)], [(0, 4, 12, 2), (1, 1, 3, 3), (1, 1, 2, 4), (1, 1, 1, 5)], [(2, 0, 13, 0), (3, 0, 24, 1), (4, 0, 24, 2), (5, 0, 24, 3)])
theorem zyw_Law_setStar : zv_wf zy_Law_setStar = true := by decide +kernel
theorem zye_Law_setStar : zv_ek2 zy_Law_setStar = true := by decide +kernel
def zf_Law_setStar (x2 : Int) (f0 : Int) (g0 : (Int → Int)) (g1 : (Int → Int)) (g2 : (Int → Int)) (g3 : (Int → Int)) : Option ((Int → Int)) := cond (zi_ix x2 24) ((zf_Sky_standing x2 f0 g3).bind fun r2 => (some (zv_up (zv_up (zv_up (zv_up g0 2 x2) 3 (g1 x2)) 4 (g2 x2)) 5 r2))) none
theorem zd92_0 : decode zxm92.2.1 0 = .ok (.aload_n 0, 1) := by decide +kernel
theorem zd92_1 : decode zxm92.2.1 1 = .ok (.getfield 56, 3) := by decide +kernel
theorem zd92_4 : decode zxm92.2.1 4 = .ok (.iconst 2, 1) := by decide +kernel
theorem zd92_5 : decode zxm92.2.1 5 = .ok (.iload_n 2, 1) := by decide +kernel
theorem zd92_6 : decode zxm92.2.1 6 = .ok (.iastore, 1) := by decide +kernel
theorem zd92_7 : decode zxm92.2.1 7 = .ok (.aload_n 0, 1) := by decide +kernel
theorem zd92_8 : decode zxm92.2.1 8 = .ok (.getfield 56, 3) := by decide +kernel
theorem zd92_11 : decode zxm92.2.1 11 = .ok (.iconst 3, 1) := by decide +kernel
theorem zd92_12 : decode zxm92.2.1 12 = .ok (.aload_n 1, 1) := by decide +kernel
theorem zd92_13 : decode zxm92.2.1 13 = .ok (.getfield 83, 3) := by decide +kernel
theorem zd92_16 : decode zxm92.2.1 16 = .ok (.iload_n 2, 1) := by decide +kernel
theorem zd92_17 : decode zxm92.2.1 17 = .ok (.iaload, 1) := by decide +kernel
theorem zd92_18 : decode zxm92.2.1 18 = .ok (.iastore, 1) := by decide +kernel
theorem zd92_19 : decode zxm92.2.1 19 = .ok (.aload_n 0, 1) := by decide +kernel
theorem zd92_20 : decode zxm92.2.1 20 = .ok (.getfield 56, 3) := by decide +kernel
theorem zd92_23 : decode zxm92.2.1 23 = .ok (.iconst 4, 1) := by decide +kernel
theorem zd92_24 : decode zxm92.2.1 24 = .ok (.aload_n 1, 1) := by decide +kernel
theorem zd92_25 : decode zxm92.2.1 25 = .ok (.getfield 86, 3) := by decide +kernel
theorem zd92_28 : decode zxm92.2.1 28 = .ok (.iload_n 2, 1) := by decide +kernel
theorem zd92_29 : decode zxm92.2.1 29 = .ok (.iaload, 1) := by decide +kernel
theorem zd92_30 : decode zxm92.2.1 30 = .ok (.iastore, 1) := by decide +kernel
theorem zd92_31 : decode zxm92.2.1 31 = .ok (.aload_n 0, 1) := by decide +kernel
theorem zd92_32 : decode zxm92.2.1 32 = .ok (.getfield 56, 3) := by decide +kernel
theorem zd92_35 : decode zxm92.2.1 35 = .ok (.iconst 5, 1) := by decide +kernel
theorem zd92_36 : decode zxm92.2.1 36 = .ok (.aload_n 1, 1) := by decide +kernel
theorem zd92_37 : decode zxm92.2.1 37 = .ok (.iload_n 2, 1) := by decide +kernel
theorem zd92_38 : decode zxm92.2.1 38 = .ok (.invokevirtual 89, 3) := by decide +kernel
theorem zd92_41 : decode zxm92.2.1 41 = .ok (.iastore, 1) := by decide +kernel
theorem zd92_42 : decode zxm92.2.1 42 = .ok (.return_, 1) := by decide +kernel
theorem zt_Law_setStar {x2 : Int} {f0 : Int} {g0 : (Int → Int)} {g1 : (Int → Int)} {g2 : (Int → Int)} {g3 : (Int → Int)} {o : (Int → Int)} (h : zf_Law_setStar x2 f0 g0 g1 g2 g3 = some o) : zv_Fn z_TB z_cl z_KX zy_Law_setStar zxm92 (1, 60) [.inr 0, .inr 1, .inl x2] [.inl f0] [g0, g1, g2, g3] none [.inl f0] [o, g1, g2, g3] := zv_meth (K := (z_KF2, z_KC2, z_KL2, z_KT2, [], [], [], none)) (FT := z_FT) (MT := z_MT) (n := 3) zxp92 (z_ks2 _ (fun _ h => List.mem_cons_of_mem _ h) _ _ _ _ (fun j r h _ => by cases h)) (fun _ _ => zs_KX_p) zyw_Law_setStar (fun va F G h => by obtain ⟨rfl, _⟩ := h; rfl) (fun va F G h => by obtain ⟨rfl, _⟩ := h; rfl) rfl fun good va F G hB hret hvret hP => by
  obtain ⟨rfl, rfl, rfl⟩ := hP
  unfold zf_Law_setStar at h
  refine zv_ald hB zd92_0 rfl rfl rfl ?_
  refine zv_getr hB zd92_1 rfl ?_
  refine zv_con hB zd92_4 rfl ?_
  refine zv_ild hB zd92_5 rfl rfl ?_
  refine zv_iast hB zd92_6 rfl rfl (by decide) (by decide) ?_
  refine zv_ald hB zd92_7 rfl rfl rfl ?_
  refine zv_getr hB zd92_8 rfl ?_
  refine zv_con hB zd92_11 rfl ?_
  refine zv_ald hB zd92_12 rfl rfl rfl ?_
  refine zv_getr hB zd92_13 rfl ?_
  refine zv_ild hB zd92_16 rfl rfl ?_
  obtain ⟨c1, h⟩ := zi_if h
  refine zv_iald hB zd92_17 rfl rfl (zi_ix_ok c1).1 (zi_ix_ok c1).2 (fun _ _ => ?_)
  refine zv_iast hB zd92_18 rfl rfl (by decide) (by decide) ?_
  refine zv_ald hB zd92_19 rfl rfl rfl ?_
  refine zv_getr hB zd92_20 rfl ?_
  refine zv_con hB zd92_23 rfl ?_
  refine zv_ald hB zd92_24 rfl rfl rfl ?_
  refine zv_getr hB zd92_25 rfl ?_
  refine zv_ild hB zd92_28 rfl rfl ?_
  refine zv_iald hB zd92_29 rfl rfl (zi_ix_ok c1).1 (zi_ix_ok c1).2 (fun _ _ => ?_)
  refine zv_iast hB zd92_30 rfl rfl (by decide) (by decide) ?_
  refine zv_ald hB zd92_31 rfl rfl rfl ?_
  refine zv_getr hB zd92_32 rfl ?_
  refine zv_con hB zd92_35 rfl ?_
  refine zv_ald hB zd92_36 rfl rfl rfl ?_
  refine zv_ild hB zd92_37 rfl rfl ?_
  obtain ⟨r2, hr2, h⟩ := zi_bind h
  refine zv_cv hB (zv_emq (va2 := [.inr 1, .inl x2]) (F := [.inl f0]) (F' := [.inl f0]) (G := [(zv_up (zv_up (zv_up g0 2 x2) 3 (g1 x2)) 4 (g2 x2)), g1, g2, g3]) (G' := [(zv_up (zv_up (zv_up g0 2 x2) 3 (g1 x2)) 4 (g2 x2)), g1, g2, g3]) (ρ := [1, 5]) (φ := [0]) (ψ := [3]) [some 0] [none, none, none, some 0] zyw_Sky_standing zyw_Law_setStar zye_Law_setStar (by decide +kernel) (zt_Sky_standing hr2) ⟨⟨_, rfl, fun _ => rfl⟩, trivial⟩ ⟨rfl, trivial⟩ rfl rfl rfl rfl rfl rfl rfl) zd92_38 zxt82 rfl (by decide) (by decide) rfl ?_
  refine zv_iast hB zd92_41 rfl rfl (by decide) (by decide) ?_
  have hw := Option.some.inj h
  subst hw
  exact hvret _ _ _ _ zd92_42 trivial ⟨rfl, rfl, rfl⟩
/-! Math_max (II)I -/
-- names: 
-- fields: ; arrays: ; out: [('ret', None)]
abbrev zy_Math_max : zNL := (0, [], [], [], [])
theorem zyw_Math_max : zv_wf zy_Math_max = true := by decide +kernel
theorem zye_Math_max : zv_ek2 zy_Math_max = true := by decide +kernel
def zf_Math_max (x0 : Int) (x1 : Int) : Option (Int) := if x0 < x1 then (some x1) else (some x0)
theorem zt_Math_max {x0 : Int} {x1 : Int} {o : Int} (h : zf_Math_max x0 x1 = some o) : zv_Fn z_TB z_cl z_KX zy_Math_max zxm55 (0, 0) [.inl x0, .inl x1] [] [] (some o) [] [] := zv_meth (K := (z_KF16, z_KC16, z_KL16, z_KT16, [], [], [], none)) (FT := z_FT) (MT := z_MT) (n := 2) zxp55 (z_ks16 _ (fun _ h => List.mem_cons_of_mem _ h) _ _ _ _ (fun j r h _ => by cases h)) (fun _ _ => zs_KX_p) zyw_Math_max (fun va F G h => by obtain ⟨rfl, _⟩ := h; rfl) (fun va F G h => by obtain ⟨rfl, _⟩ := h; rfl) rfl fun good va F G hB hret hvret hP => by
  obtain ⟨rfl, rfl, rfl⟩ := hP
  unfold zf_Math_max at h
  refine zv_ild hB zd55_0 rfl rfl ?_
  refine zv_ild hB zd55_1 rfl rfl ?_
  refine zv_clt hB zd55_2 rfl (fun hc1 => ?_) (fun hc1 => ?_)
  · rw [if_pos hc1] at h
    refine zv_ild hB zd55_9 rfl rfl ?_
    have hw := Option.some.inj h
    subst hw
    exact hret _ _ _ _ _ zd55_10 (by trivial) ⟨rfl, rfl, rfl⟩
  · rw [if_neg (Int.not_lt.mpr hc1)] at h
    refine zv_ild hB zd55_5 rfl rfl ?_
    refine zv_goto hB zd55_6 rfl ?_
    have hw := Option.some.inj h
    subst hw
    exact hret _ _ _ _ _ zd55_10 (by trivial) ⟨rfl, rfl, rfl⟩
end
