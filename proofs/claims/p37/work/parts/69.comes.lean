/-! What codes come to, by the reference. -/
theorem zp_q_use {D codes w : Int → Int} {cm k : Int} (h : zp_q D codes w cm 0 k) : 0 ≤ codes k ∧ 0 ≤ D k ∧
    ((codes k / 1048576 = 0 ∧ D (k + 1) ≤ D k + 1) ∨ (codes k / 1048576 = 1 ∧ codes k % 1048576 ≤ 12 ∧ D (k + 1) ≤ D k + 1) ∨ (2 ≤ codes k / 1048576 ∧ codes k / 1048576 ≤ 9 ∧ 2 ≤ D k ∧ D (k + 1) ≤ D k - 1) ∨ (codes k / 1048576 = 10 ∧ 1 ≤ D k ∧ D (k + 1) ≤ D k) ∨
      ((codes k / 1048576 = 11 ∨ codes k / 1048576 = 12) ∧ 1 ≤ D k ∧ D (k + 1) ≤ D k - 1 ∧ k < codes k % 1048576 ∧ codes k % 1048576 ≤ cm ∧ D (codes k % 1048576) ≤ D k)) := by
  obtain ⟨q1, q2, q3⟩ := h
  refine ⟨q1, q2, ?_⟩
  rcases q3 with q3 | q3 | q3 | q3 | ⟨q3, q4, q5, q6⟩
  · exact Or.inl q3
  · exact Or.inr (Or.inl q3)
  · exact Or.inr (Or.inr (Or.inl q3))
  · exact Or.inr (Or.inr (Or.inr (Or.inl q3)))
  · rcases q6 with ⟨q6, q7, q8⟩ | ⟨j, j1, j2, _⟩
    · exact Or.inr (Or.inr (Or.inr (Or.inr ⟨q3, q4, q5, q6, q7, q8⟩)))
    · exact absurd j1 (by omega)
section ZCOMES
variable {cm fr to : Int} {tape said w sl sf sh st codes co cf ch ct stk fa D : Int → Int} {Fr : List Int} {Gr : List (Int → Int)}
theorem zd250_0 : decode zxm250.2.1 0 = .ok (.iload_n 0, 1) := by decide +kernel
theorem zd250_1 : decode zxm250.2.1 1 = .ok (.tableswitch 85 2 8 #[43, 47, 51, 55, 59, 63, 74], 43) := by decide +kernel
theorem zd250_44 : decode zxm250.2.1 44 = .ok (.iload_n 1, 1) := by decide +kernel
theorem zd250_45 : decode zxm250.2.1 45 = .ok (.iload_n 2, 1) := by decide +kernel
theorem zd250_46 : decode zxm250.2.1 46 = .ok (.iadd, 1) := by decide +kernel
theorem zd250_47 : decode zxm250.2.1 47 = .ok (.ireturn, 1) := by decide +kernel
theorem zd250_48 : decode zxm250.2.1 48 = .ok (.iload_n 1, 1) := by decide +kernel
theorem zd250_49 : decode zxm250.2.1 49 = .ok (.iload_n 2, 1) := by decide +kernel
theorem zd250_50 : decode zxm250.2.1 50 = .ok (.isub, 1) := by decide +kernel
theorem zd250_51 : decode zxm250.2.1 51 = .ok (.ireturn, 1) := by decide +kernel
theorem zd250_52 : decode zxm250.2.1 52 = .ok (.iload_n 1, 1) := by decide +kernel
theorem zd250_53 : decode zxm250.2.1 53 = .ok (.iload_n 2, 1) := by decide +kernel
theorem zd250_54 : decode zxm250.2.1 54 = .ok (.imul, 1) := by decide +kernel
theorem zd250_55 : decode zxm250.2.1 55 = .ok (.ireturn, 1) := by decide +kernel
theorem zd250_56 : decode zxm250.2.1 56 = .ok (.iload_n 1, 1) := by decide +kernel
theorem zd250_57 : decode zxm250.2.1 57 = .ok (.iload_n 2, 1) := by decide +kernel
theorem zd250_58 : decode zxm250.2.1 58 = .ok (.idiv, 1) := by decide +kernel
theorem zd250_59 : decode zxm250.2.1 59 = .ok (.ireturn, 1) := by decide +kernel
theorem zd250_60 : decode zxm250.2.1 60 = .ok (.iload_n 1, 1) := by decide +kernel
theorem zd250_61 : decode zxm250.2.1 61 = .ok (.iload_n 2, 1) := by decide +kernel
theorem zd250_62 : decode zxm250.2.1 62 = .ok (.irem, 1) := by decide +kernel
theorem zd250_63 : decode zxm250.2.1 63 = .ok (.ireturn, 1) := by decide +kernel
theorem zd250_64 : decode zxm250.2.1 64 = .ok (.iload_n 1, 1) := by decide +kernel
theorem zd250_65 : decode zxm250.2.1 65 = .ok (.iload_n 2, 1) := by decide +kernel
theorem zd250_66 : decode zxm250.2.1 66 = .ok (.if_icmp .ge 7, 3) := by decide +kernel
theorem zd250_69 : decode zxm250.2.1 69 = .ok (.iconst 1, 1) := by decide +kernel
theorem zd250_70 : decode zxm250.2.1 70 = .ok (.goto 4, 3) := by decide +kernel
theorem zd250_73 : decode zxm250.2.1 73 = .ok (.iconst 0, 1) := by decide +kernel
theorem zd250_74 : decode zxm250.2.1 74 = .ok (.ireturn, 1) := by decide +kernel
theorem zd250_75 : decode zxm250.2.1 75 = .ok (.iload_n 1, 1) := by decide +kernel
theorem zd250_76 : decode zxm250.2.1 76 = .ok (.iload_n 2, 1) := by decide +kernel
theorem zd250_77 : decode zxm250.2.1 77 = .ok (.if_icmp .le 7, 3) := by decide +kernel
theorem zd250_80 : decode zxm250.2.1 80 = .ok (.iconst 1, 1) := by decide +kernel
theorem zd250_81 : decode zxm250.2.1 81 = .ok (.goto 4, 3) := by decide +kernel
theorem zd250_84 : decode zxm250.2.1 84 = .ok (.iconst 0, 1) := by decide +kernel
theorem zd250_85 : decode zxm250.2.1 85 = .ok (.ireturn, 1) := by decide +kernel
theorem zd250_86 : decode zxm250.2.1 86 = .ok (.iload_n 1, 1) := by decide +kernel
theorem zd250_87 : decode zxm250.2.1 87 = .ok (.iload_n 2, 1) := by decide +kernel
theorem zd250_88 : decode zxm250.2.1 88 = .ok (.if_icmp .ne 7, 3) := by decide +kernel
theorem zd250_91 : decode zxm250.2.1 91 = .ok (.iconst 1, 1) := by decide +kernel
theorem zd250_92 : decode zxm250.2.1 92 = .ok (.goto 4, 3) := by decide +kernel
theorem zd250_95 : decode zxm250.2.1 95 = .ok (.iconst 0, 1) := by decide +kernel
theorem zd250_96 : decode zxm250.2.1 96 = .ok (.ireturn, 1) := by decide +kernel
theorem zh250 {o a b : Int} : zn_OK z_TB z_cl z_KX zyM zxm250 (0, 0) (fun va F G => va = [.inl o, .inl a, .inl b] ∧ (o = 5 ∨ o = 6 → b ≠ 0)) (fun va F G r F' G' => F' = F ∧ G' = G ∧ ∃ v, r = some v) := zn_meth (K := zkM) (FT := z_FT) (MT := z_MT) (n := 3) zxp250 (z_ks13 _ (fun _ h => List.mem_cons_of_mem _ h) _ _ _ _ (fun j r h _ => by cases h)) (fun _ _ => zs_KX_p) (by decide +kernel) (fun va F G h => by obtain ⟨rfl, _⟩ := h; rfl) rfl fun good va F G hB hret hvret hP => by
  obtain ⟨rfl, h0⟩ := hP
  refine zn_ild hB zd250_0 rfl rfl ?_
  refine zn_tsw hB zd250_1 rfl ?_
  refine ⟨fun s1 => ⟨_, rfl, ?_⟩, fun s1 => ?_⟩
  · refine zn_ild hB zd250_44 rfl rfl ?_
    refine zn_ild hB zd250_45 rfl rfl ?_
    refine zn_any hB zd250_46 rfl (fun v46 q46 r46 => ?_)
    exact hret _ _ _ _ _ zd250_47 trivial ⟨rfl, rfl, _, rfl⟩
  refine ⟨fun s1 => ⟨_, rfl, ?_⟩, fun s1 => ?_⟩
  · refine zn_ild hB zd250_48 rfl rfl ?_
    refine zn_ild hB zd250_49 rfl rfl ?_
    refine zn_any hB zd250_50 rfl (fun v50 q50 r50 => ?_)
    exact hret _ _ _ _ _ zd250_51 trivial ⟨rfl, rfl, _, rfl⟩
  refine ⟨fun s1 => ⟨_, rfl, ?_⟩, fun s1 => ?_⟩
  · refine zn_ild hB zd250_52 rfl rfl ?_
    refine zn_ild hB zd250_53 rfl rfl ?_
    refine zn_any hB zd250_54 rfl (fun v54 q54 r54 => ?_)
    exact hret _ _ _ _ _ zd250_55 trivial ⟨rfl, rfl, _, rfl⟩
  refine ⟨fun s1 => ⟨_, rfl, ?_⟩, fun s1 => ?_⟩
  · refine zn_ild hB zd250_56 rfl rfl ?_
    refine zn_ild hB zd250_57 rfl rfl ?_
    refine zn_any0 hB zd250_58 rfl (by omega) (fun v58 q58 r58 => ?_)
    exact hret _ _ _ _ _ zd250_59 trivial ⟨rfl, rfl, _, rfl⟩
  refine ⟨fun s1 => ⟨_, rfl, ?_⟩, fun s1 => ?_⟩
  · refine zn_ild hB zd250_60 rfl rfl ?_
    refine zn_ild hB zd250_61 rfl rfl ?_
    refine zn_any0 hB zd250_62 rfl (by omega) (fun v62 q62 r62 => ?_)
    exact hret _ _ _ _ _ zd250_63 trivial ⟨rfl, rfl, _, rfl⟩
  refine ⟨fun s1 => ⟨_, rfl, ?_⟩, fun s1 => ?_⟩
  · refine zn_ild hB zd250_64 rfl rfl ?_
    refine zn_ild hB zd250_65 rfl rfl ?_
    refine zn_cge hB zd250_66 rfl (fun h66 => ?_) (fun h66 => ?_)
    · refine zn_con hB zd250_73 rfl ?_
      exact hret _ _ _ _ _ zd250_74 trivial ⟨rfl, rfl, _, rfl⟩
    · refine zn_con hB zd250_69 rfl ?_
      refine zn_goto hB zd250_70 rfl ?_
      exact hret _ _ _ _ _ zd250_74 trivial ⟨rfl, rfl, _, rfl⟩
  refine ⟨fun s1 => ⟨_, rfl, ?_⟩, fun s1 => ?_⟩
  · refine zn_ild hB zd250_75 rfl rfl ?_
    refine zn_ild hB zd250_76 rfl rfl ?_
    refine zn_cle hB zd250_77 rfl (fun h77 => ?_) (fun h77 => ?_)
    · refine zn_con hB zd250_84 rfl ?_
      exact hret _ _ _ _ _ zd250_85 trivial ⟨rfl, rfl, _, rfl⟩
    · refine zn_con hB zd250_80 rfl ?_
      refine zn_goto hB zd250_81 rfl ?_
      exact hret _ _ _ _ _ zd250_85 trivial ⟨rfl, rfl, _, rfl⟩
  refine ⟨_, rfl, ?_⟩
  refine zn_ild hB zd250_86 rfl rfl ?_
  refine zn_ild hB zd250_87 rfl rfl ?_
  refine zn_cne hB zd250_88 rfl (fun h88 => ?_) (fun h88 => ?_)
  · refine zn_con hB zd250_95 rfl ?_
    exact hret _ _ _ _ _ zd250_96 trivial ⟨rfl, rfl, _, rfl⟩
  · refine zn_con hB zd250_91 rfl ?_
    refine zn_goto hB zd250_92 rfl ?_
    exact hret _ _ _ _ _ zd250_96 trivial ⟨rfl, rfl, _, rfl⟩
theorem zd249_0 : decode zxm249.2.1 0 = .ok (.iconst 0, 1) := by decide +kernel
theorem zd249_1 : decode zxm249.2.1 1 = .ok (.istore_n 3, 1) := by decide +kernel
theorem zd249_2 : decode zxm249.2.1 2 = .ok (.sipush 220, 3) := by decide +kernel
theorem zd249_5 : decode zxm249.2.1 5 = .ok (.iload_n 1, 1) := by decide +kernel
theorem zd249_6 : decode zxm249.2.1 6 = .ok (.sipush 220, 3) := by decide +kernel
theorem zd249_9 : decode zxm249.2.1 9 = .ok (.idiv, 1) := by decide +kernel
theorem zd249_10 : decode zxm249.2.1 10 = .ok (.imul, 1) := by decide +kernel
theorem zd249_11 : decode zxm249.2.1 11 = .ok (.istore 4, 2) := by decide +kernel
theorem zd249_13 : decode zxm249.2.1 13 = .ok (.iload_n 1, 1) := by decide +kernel
theorem zd249_14 : decode zxm249.2.1 14 = .ok (.istore 5, 2) := by decide +kernel
theorem zd249_16 : decode zxm249.2.1 16 = .ok (.iload 5, 2) := by decide +kernel
theorem zd249_18 : decode zxm249.2.1 18 = .ok (.iload_n 2, 1) := by decide +kernel
theorem zd249_19 : decode zxm249.2.1 19 = .ok (.if_icmp .ge 214, 3) := by decide +kernel
theorem zd249_22 : decode zxm249.2.1 22 = .ok (.aload_n 0, 1) := by decide +kernel
theorem zd249_23 : decode zxm249.2.1 23 = .ok (.getfield 41, 3) := by decide +kernel
theorem zd249_26 : decode zxm249.2.1 26 = .ok (.iload 5, 2) := by decide +kernel
theorem zd249_28 : decode zxm249.2.1 28 = .ok (.iaload, 1) := by decide +kernel
theorem zd249_29 : decode zxm249.2.1 29 = .ok (.ldc 202, 2) := by decide +kernel
theorem zd249_31 : decode zxm249.2.1 31 = .ok (.idiv, 1) := by decide +kernel
theorem zd249_32 : decode zxm249.2.1 32 = .ok (.istore 6, 2) := by decide +kernel
theorem zd249_34 : decode zxm249.2.1 34 = .ok (.aload_n 0, 1) := by decide +kernel
theorem zd249_35 : decode zxm249.2.1 35 = .ok (.getfield 41, 3) := by decide +kernel
theorem zd249_38 : decode zxm249.2.1 38 = .ok (.iload 5, 2) := by decide +kernel
theorem zd249_40 : decode zxm249.2.1 40 = .ok (.iaload, 1) := by decide +kernel
theorem zd249_41 : decode zxm249.2.1 41 = .ok (.ldc 202, 2) := by decide +kernel
theorem zd249_43 : decode zxm249.2.1 43 = .ok (.irem, 1) := by decide +kernel
theorem zd249_44 : decode zxm249.2.1 44 = .ok (.istore 7, 2) := by decide +kernel
theorem zd249_46 : decode zxm249.2.1 46 = .ok (.iload 5, 2) := by decide +kernel
theorem zd249_48 : decode zxm249.2.1 48 = .ok (.iconst 1, 1) := by decide +kernel
theorem zd249_49 : decode zxm249.2.1 49 = .ok (.iadd, 1) := by decide +kernel
theorem zd249_50 : decode zxm249.2.1 50 = .ok (.istore 5, 2) := by decide +kernel
theorem zd249_52 : decode zxm249.2.1 52 = .ok (.iload 6, 2) := by decide +kernel
theorem zd249_54 : decode zxm249.2.1 54 = .ok (.ifCond .eq 9, 3) := by decide +kernel
theorem zd249_57 : decode zxm249.2.1 57 = .ok (.iload 6, 2) := by decide +kernel
theorem zd249_59 : decode zxm249.2.1 59 = .ok (.iconst 1, 1) := by decide +kernel
theorem zd249_60 : decode zxm249.2.1 60 = .ok (.if_icmp .ne 33, 3) := by decide +kernel
theorem zd249_63 : decode zxm249.2.1 63 = .ok (.aload_n 0, 1) := by decide +kernel
theorem zd249_64 : decode zxm249.2.1 64 = .ok (.getfield 56, 3) := by decide +kernel
theorem zd249_67 : decode zxm249.2.1 67 = .ok (.iload_n 3, 1) := by decide +kernel
theorem zd249_68 : decode zxm249.2.1 68 = .ok (.iload 6, 2) := by decide +kernel
theorem zd249_70 : decode zxm249.2.1 70 = .ok (.ifCond .ne 8, 3) := by decide +kernel
theorem zd249_73 : decode zxm249.2.1 73 = .ok (.iload 7, 2) := by decide +kernel
theorem zd249_75 : decode zxm249.2.1 75 = .ok (.goto 10, 3) := by decide +kernel
theorem zd249_78 : decode zxm249.2.1 78 = .ok (.aload_n 0, 1) := by decide +kernel
theorem zd249_79 : decode zxm249.2.1 79 = .ok (.getfield 59, 3) := by decide +kernel
theorem zd249_82 : decode zxm249.2.1 82 = .ok (.iload 7, 2) := by decide +kernel
theorem zd249_84 : decode zxm249.2.1 84 = .ok (.iaload, 1) := by decide +kernel
theorem zd249_85 : decode zxm249.2.1 85 = .ok (.iastore, 1) := by decide +kernel
theorem zd249_86 : decode zxm249.2.1 86 = .ok (.iload_n 3, 1) := by decide +kernel
theorem zd249_87 : decode zxm249.2.1 87 = .ok (.iconst 1, 1) := by decide +kernel
theorem zd249_88 : decode zxm249.2.1 88 = .ok (.iadd, 1) := by decide +kernel
theorem zd249_89 : decode zxm249.2.1 89 = .ok (.istore_n 3, 1) := by decide +kernel
theorem zd249_90 : decode zxm249.2.1 90 = .ok (.goto 140, 3) := by decide +kernel
theorem zd249_93 : decode zxm249.2.1 93 = .ok (.iload 6, 2) := by decide +kernel
theorem zd249_95 : decode zxm249.2.1 95 = .ok (.bipush 10, 2) := by decide +kernel
theorem zd249_97 : decode zxm249.2.1 97 = .ok (.if_icmp .ne 24, 3) := by decide +kernel
theorem zd249_100 : decode zxm249.2.1 100 = .ok (.aload_n 0, 1) := by decide +kernel
theorem zd249_101 : decode zxm249.2.1 101 = .ok (.getfield 56, 3) := by decide +kernel
theorem zd249_104 : decode zxm249.2.1 104 = .ok (.iload_n 3, 1) := by decide +kernel
theorem zd249_105 : decode zxm249.2.1 105 = .ok (.iconst 1, 1) := by decide +kernel
theorem zd249_106 : decode zxm249.2.1 106 = .ok (.isub, 1) := by decide +kernel
theorem zd249_107 : decode zxm249.2.1 107 = .ok (.iconst 1, 1) := by decide +kernel
theorem zd249_108 : decode zxm249.2.1 108 = .ok (.aload_n 0, 1) := by decide +kernel
theorem zd249_109 : decode zxm249.2.1 109 = .ok (.getfield 56, 3) := by decide +kernel
theorem zd249_112 : decode zxm249.2.1 112 = .ok (.iload_n 3, 1) := by decide +kernel
theorem zd249_113 : decode zxm249.2.1 113 = .ok (.iconst 1, 1) := by decide +kernel
theorem zd249_114 : decode zxm249.2.1 114 = .ok (.isub, 1) := by decide +kernel
theorem zd249_115 : decode zxm249.2.1 115 = .ok (.iaload, 1) := by decide +kernel
theorem zd249_116 : decode zxm249.2.1 116 = .ok (.isub, 1) := by decide +kernel
theorem zd249_117 : decode zxm249.2.1 117 = .ok (.iastore, 1) := by decide +kernel
theorem zd249_118 : decode zxm249.2.1 118 = .ok (.goto 112, 3) := by decide +kernel
theorem zd249_121 : decode zxm249.2.1 121 = .ok (.iload 6, 2) := by decide +kernel
theorem zd249_123 : decode zxm249.2.1 123 = .ok (.bipush 11, 2) := by decide +kernel
theorem zd249_125 : decode zxm249.2.1 125 = .ok (.if_icmp .eq 10, 3) := by decide +kernel
theorem zd249_128 : decode zxm249.2.1 128 = .ok (.iload 6, 2) := by decide +kernel
theorem zd249_130 : decode zxm249.2.1 130 = .ok (.bipush 12, 2) := by decide +kernel
theorem zd249_132 : decode zxm249.2.1 132 = .ok (.if_icmp .ne 43, 3) := by decide +kernel
theorem zd249_135 : decode zxm249.2.1 135 = .ok (.aload_n 0, 1) := by decide +kernel
theorem zd249_136 : decode zxm249.2.1 136 = .ok (.getfield 56, 3) := by decide +kernel
theorem zd249_139 : decode zxm249.2.1 139 = .ok (.iload_n 3, 1) := by decide +kernel
theorem zd249_140 : decode zxm249.2.1 140 = .ok (.iconst 1, 1) := by decide +kernel
theorem zd249_141 : decode zxm249.2.1 141 = .ok (.isub, 1) := by decide +kernel
theorem zd249_142 : decode zxm249.2.1 142 = .ok (.iaload, 1) := by decide +kernel
theorem zd249_143 : decode zxm249.2.1 143 = .ok (.iload 6, 2) := by decide +kernel
theorem zd249_145 : decode zxm249.2.1 145 = .ok (.bipush 12, 2) := by decide +kernel
theorem zd249_147 : decode zxm249.2.1 147 = .ok (.if_icmp .ne 7, 3) := by decide +kernel
theorem zd249_150 : decode zxm249.2.1 150 = .ok (.iconst 1, 1) := by decide +kernel
theorem zd249_151 : decode zxm249.2.1 151 = .ok (.goto 4, 3) := by decide +kernel
theorem zd249_154 : decode zxm249.2.1 154 = .ok (.iconst 0, 1) := by decide +kernel
theorem zd249_155 : decode zxm249.2.1 155 = .ok (.if_icmp .ne 13, 3) := by decide +kernel
theorem zd249_158 : decode zxm249.2.1 158 = .ok (.iload 4, 2) := by decide +kernel
theorem zd249_160 : decode zxm249.2.1 160 = .ok (.iload 7, 2) := by decide +kernel
theorem zd249_162 : decode zxm249.2.1 162 = .ok (.iadd, 1) := by decide +kernel
theorem zd249_163 : decode zxm249.2.1 163 = .ok (.istore 5, 2) := by decide +kernel
theorem zd249_165 : decode zxm249.2.1 165 = .ok (.goto 65, 3) := by decide +kernel
theorem zd249_168 : decode zxm249.2.1 168 = .ok (.iload_n 3, 1) := by decide +kernel
theorem zd249_169 : decode zxm249.2.1 169 = .ok (.iconst 1, 1) := by decide +kernel
theorem zd249_170 : decode zxm249.2.1 170 = .ok (.isub, 1) := by decide +kernel
theorem zd249_171 : decode zxm249.2.1 171 = .ok (.istore_n 3, 1) := by decide +kernel
theorem zd249_172 : decode zxm249.2.1 172 = .ok (.goto 58, 3) := by decide +kernel
theorem zd249_175 : decode zxm249.2.1 175 = .ok (.iload_n 3, 1) := by decide +kernel
theorem zd249_176 : decode zxm249.2.1 176 = .ok (.iconst 1, 1) := by decide +kernel
theorem zd249_177 : decode zxm249.2.1 177 = .ok (.isub, 1) := by decide +kernel
theorem zd249_178 : decode zxm249.2.1 178 = .ok (.istore_n 3, 1) := by decide +kernel
theorem zd249_179 : decode zxm249.2.1 179 = .ok (.iload 6, 2) := by decide +kernel
theorem zd249_181 : decode zxm249.2.1 181 = .ok (.iconst 5, 1) := by decide +kernel
theorem zd249_182 : decode zxm249.2.1 182 = .ok (.if_icmp .eq 10, 3) := by decide +kernel
theorem zd249_185 : decode zxm249.2.1 185 = .ok (.iload 6, 2) := by decide +kernel
theorem zd249_187 : decode zxm249.2.1 187 = .ok (.bipush 6, 2) := by decide +kernel
theorem zd249_189 : decode zxm249.2.1 189 = .ok (.if_icmp .ne 14, 3) := by decide +kernel
theorem zd249_192 : decode zxm249.2.1 192 = .ok (.aload_n 0, 1) := by decide +kernel
theorem zd249_193 : decode zxm249.2.1 193 = .ok (.getfield 56, 3) := by decide +kernel
theorem zd249_196 : decode zxm249.2.1 196 = .ok (.iload_n 3, 1) := by decide +kernel
theorem zd249_197 : decode zxm249.2.1 197 = .ok (.iaload, 1) := by decide +kernel
theorem zd249_198 : decode zxm249.2.1 198 = .ok (.ifCond .ne 5, 3) := by decide +kernel
theorem zd249_201 : decode zxm249.2.1 201 = .ok (.iconst 0, 1) := by decide +kernel
theorem zd249_202 : decode zxm249.2.1 202 = .ok (.ireturn, 1) := by decide +kernel
theorem zd249_203 : decode zxm249.2.1 203 = .ok (.aload_n 0, 1) := by decide +kernel
theorem zd249_204 : decode zxm249.2.1 204 = .ok (.getfield 56, 3) := by decide +kernel
theorem zd249_207 : decode zxm249.2.1 207 = .ok (.iload_n 3, 1) := by decide +kernel
theorem zd249_208 : decode zxm249.2.1 208 = .ok (.iconst 1, 1) := by decide +kernel
theorem zd249_209 : decode zxm249.2.1 209 = .ok (.isub, 1) := by decide +kernel
theorem zd249_210 : decode zxm249.2.1 210 = .ok (.iload 6, 2) := by decide +kernel
theorem zd249_212 : decode zxm249.2.1 212 = .ok (.aload_n 0, 1) := by decide +kernel
theorem zd249_213 : decode zxm249.2.1 213 = .ok (.getfield 56, 3) := by decide +kernel
theorem zd249_216 : decode zxm249.2.1 216 = .ok (.iload_n 3, 1) := by decide +kernel
theorem zd249_217 : decode zxm249.2.1 217 = .ok (.iconst 1, 1) := by decide +kernel
theorem zd249_218 : decode zxm249.2.1 218 = .ok (.isub, 1) := by decide +kernel
theorem zd249_219 : decode zxm249.2.1 219 = .ok (.iaload, 1) := by decide +kernel
theorem zd249_220 : decode zxm249.2.1 220 = .ok (.aload_n 0, 1) := by decide +kernel
theorem zd249_221 : decode zxm249.2.1 221 = .ok (.getfield 56, 3) := by decide +kernel
theorem zd249_224 : decode zxm249.2.1 224 = .ok (.iload_n 3, 1) := by decide +kernel
theorem zd249_225 : decode zxm249.2.1 225 = .ok (.iaload, 1) := by decide +kernel
theorem zd249_226 : decode zxm249.2.1 226 = .ok (.invokestatic 271, 3) := by decide +kernel
theorem zd249_229 : decode zxm249.2.1 229 = .ok (.iastore, 1) := by decide +kernel
theorem zd249_230 : decode zxm249.2.1 230 = .ok (.goto (-214), 3) := by decide +kernel
theorem zd249_233 : decode zxm249.2.1 233 = .ok (.aload_n 0, 1) := by decide +kernel
theorem zd249_234 : decode zxm249.2.1 234 = .ok (.getfield 56, 3) := by decide +kernel
theorem zd249_237 : decode zxm249.2.1 237 = .ok (.iconst 0, 1) := by decide +kernel
theorem zd249_238 : decode zxm249.2.1 238 = .ok (.iaload, 1) := by decide +kernel
theorem zd249_239 : decode zxm249.2.1 239 = .ok (.ireturn, 1) := by decide +kernel
theorem zh249  : zn_OK z_TB z_cl z_KX zyM zxm249 (1, 60) (fun va F G => va = [.inr 0, .inl fr, .inl to] ∧ G = tape :: said :: w :: sl :: sf :: sh :: st :: codes :: co :: cf :: ch :: ct :: stk :: fa :: Gr ∧ 0 ≤ fr ∧ fr ≤ cm ∧ to ≤ cm ∧ cm ≤ 200 ∧ D fr = 0 ∧ ∀ k, 0 ≤ k → k < cm → zp_q D codes (fun _ => 0) cm 0 k) (fun va F G r F' G' => ∃ v stk', r = some v ∧ F' = F ∧ G' = tape :: said :: w :: sl :: sf :: sh :: st :: codes :: co :: cf :: ch :: ct :: stk' :: fa :: Gr) := zn_meth (K := zkM) (FT := z_FT) (MT := z_MT) (n := 3) zxp249 (z_ks13 _ (fun _ h => List.mem_cons_of_mem _ h) _ _ _ _ (fun j r h _ => by cases h)) (fun _ _ => zs_KX_p) (by decide +kernel) (fun va F G h => by obtain ⟨rfl, _⟩ := h; rfl) rfl fun good va F G hB hret hvret hP => by
  obtain ⟨rfl, rfl, h0, h1, h2, h3, h4, hq⟩ := hP
  have key : ∀ (m : Nat) (n b k : Int) (x y : zNV) (stk : Int → Int), b = 0 → fr ≤ k → k ≤ cm → D k ≤ n → n ≤ k - fr → cm - k < m → good 16 [.inr 0, .inl fr, .inl to, .inl n, .inl b, .inl k, x, y] [] F (tape :: said :: w :: sl :: sf :: sh :: st :: codes :: co :: cf :: ch :: ct :: stk :: fa :: Gr) := by
    intro m
    induction m with
    | zero =>
      intro n b k x y stk e1 e2 e3 e4 e5 e6
      exfalso; omega
    | succ m ih =>
      intro n b k x y stk e1 e2 e3 e4 e5 e6
      subst e1
      refine zn_ild hB zd249_16 rfl rfl ?_
      refine zn_ild hB zd249_18 rfl rfl ?_
      refine zn_cge hB zd249_19 rfl (fun h19 => ?_) (fun h19 => ?_)
      · refine zn_ald hB zd249_233 rfl rfl rfl ?_
        refine zn_getr hB zd249_234 rfl ?_
        refine zn_con hB zd249_237 rfl ?_
        refine zn_iald hB zd249_238 rfl rfl (by omega) (by omega) (fun q238 r238 => ?_)
        exact hret _ _ _ _ _ zd249_239 trivial ⟨_, _, rfl, rfl, rfl⟩
      · obtain ⟨q1, q2, q3⟩ := zp_q_use (hq k (by omega) (by omega))
        have z0 : D (0 + codes k % 1048576) = D (codes k % 1048576) := by rw [Int.zero_add]
        refine zn_ald hB zd249_22 rfl rfl rfl ?_
        refine zn_getr hB zd249_23 rfl ?_
        refine zn_ild hB zd249_26 rfl rfl ?_
        refine zn_iald hB zd249_28 rfl rfl (by omega) (by omega) (fun q28 r28 => ?_)
        refine zn_con (n := 1048576) hB zd249_29 (by decide +kernel) ?_
        refine zn_idiv hB zd249_31 (by omega) (by omega) ?_
        refine zn_ist hB zd249_32 rfl rfl rfl ?_
        refine zn_ald hB zd249_34 rfl rfl rfl ?_
        refine zn_getr hB zd249_35 rfl ?_
        refine zn_ild hB zd249_38 rfl rfl ?_
        refine zn_iald hB zd249_40 rfl rfl (by omega) (by omega) (fun q40 r40 => ?_)
        refine zn_con (n := 1048576) hB zd249_41 (by decide +kernel) ?_
        refine zn_irem hB zd249_43 (by omega) (by omega) ?_
        refine zn_ist hB zd249_44 rfl rfl rfl ?_
        refine zn_ild hB zd249_46 rfl rfl ?_
        refine zn_con hB zd249_48 rfl ?_
        refine zn_iadd hB zd249_49 (by omega) (by omega) ?_
        refine zn_ist hB zd249_50 rfl rfl rfl ?_
        refine zn_ild hB zd249_52 rfl rfl ?_
        refine zn_zeq hB zd249_54 rfl (fun h54 => ?_) (fun h54 => ?_)
        · refine zn_ald hB zd249_63 rfl rfl rfl ?_
          refine zn_getr hB zd249_64 rfl ?_
          refine zn_ild hB zd249_67 rfl rfl ?_
          refine zn_ild hB zd249_68 rfl rfl ?_
          refine zn_zne hB zd249_70 rfl (fun h70 => ?_) (fun h70 => ?_)
          · exfalso; omega
          · refine zn_ild hB zd249_73 rfl rfl ?_
            refine zn_goto hB zd249_75 rfl ?_
            refine zn_iast hB zd249_85 rfl rfl (by omega) (by omega) ?_
            refine zn_ild hB zd249_86 rfl rfl ?_
            refine zn_con hB zd249_87 rfl ?_
            refine zn_iadd hB zd249_88 (by omega) (by omega) ?_
            refine zn_ist hB zd249_89 rfl rfl rfl ?_
            refine zn_goto hB zd249_90 rfl ?_
            refine zn_goto hB zd249_230 rfl ?_
            exact ih _ _ _ _ _ _ rfl (by omega) (by omega) (by omega) (by omega) (by omega)
        · refine zn_ild hB zd249_57 rfl rfl ?_
          refine zn_con hB zd249_59 rfl ?_
          refine zn_cne hB zd249_60 rfl (fun h60 => ?_) (fun h60 => ?_)
          · refine zn_ild hB zd249_93 rfl rfl ?_
            refine zn_con hB zd249_95 rfl ?_
            refine zn_cne hB zd249_97 rfl (fun h97 => ?_) (fun h97 => ?_)
            · refine zn_ild hB zd249_121 rfl rfl ?_
              refine zn_con hB zd249_123 rfl ?_
              refine zn_ceq hB zd249_125 rfl (fun h125 => ?_) (fun h125 => ?_)
              · refine zn_ald hB zd249_135 rfl rfl rfl ?_
                refine zn_getr hB zd249_136 rfl ?_
                refine zn_ild hB zd249_139 rfl rfl ?_
                refine zn_con hB zd249_140 rfl ?_
                refine zn_isub hB zd249_141 (by omega) (by omega) ?_
                refine zn_iald hB zd249_142 rfl rfl (by omega) (by omega) (fun q142 r142 => ?_)
                refine zn_ild hB zd249_143 rfl rfl ?_
                refine zn_con hB zd249_145 rfl ?_
                refine zn_cne hB zd249_147 rfl (fun h147 => ?_) (fun h147 => ?_)
                · refine zn_con hB zd249_154 rfl ?_
                  refine zn_cne hB zd249_155 rfl (fun h155 => ?_) (fun h155 => ?_)
                  · refine zn_ild hB zd249_168 rfl rfl ?_
                    refine zn_con hB zd249_169 rfl ?_
                    refine zn_isub hB zd249_170 (by omega) (by omega) ?_
                    refine zn_ist hB zd249_171 rfl rfl rfl ?_
                    refine zn_goto hB zd249_172 rfl ?_
                    refine zn_goto hB zd249_230 rfl ?_
                    exact ih _ _ _ _ _ _ rfl (by omega) (by omega) (by omega) (by omega) (by omega)
                  · refine zn_ild hB zd249_158 rfl rfl ?_
                    refine zn_ild hB zd249_160 rfl rfl ?_
                    refine zn_iadd hB zd249_162 (by omega) (by omega) ?_
                    refine zn_ist hB zd249_163 rfl rfl rfl ?_
                    refine zn_goto hB zd249_165 rfl ?_
                    refine zn_goto hB zd249_230 rfl ?_
                    exact ih _ _ _ _ _ _ rfl (by omega) (by omega) (by omega) (by omega) (by omega)
                · refine zn_con hB zd249_150 rfl ?_
                  refine zn_goto hB zd249_151 rfl ?_
                  refine zn_cne hB zd249_155 rfl (fun h155 => ?_) (fun h155 => ?_)
                  · refine zn_ild hB zd249_168 rfl rfl ?_
                    refine zn_con hB zd249_169 rfl ?_
                    refine zn_isub hB zd249_170 (by omega) (by omega) ?_
                    refine zn_ist hB zd249_171 rfl rfl rfl ?_
                    refine zn_goto hB zd249_172 rfl ?_
                    refine zn_goto hB zd249_230 rfl ?_
                    exact ih _ _ _ _ _ _ rfl (by omega) (by omega) (by omega) (by omega) (by omega)
                  · refine zn_ild hB zd249_158 rfl rfl ?_
                    refine zn_ild hB zd249_160 rfl rfl ?_
                    refine zn_iadd hB zd249_162 (by omega) (by omega) ?_
                    refine zn_ist hB zd249_163 rfl rfl rfl ?_
                    refine zn_goto hB zd249_165 rfl ?_
                    refine zn_goto hB zd249_230 rfl ?_
                    exact ih _ _ _ _ _ _ rfl (by omega) (by omega) (by omega) (by omega) (by omega)
              · refine zn_ild hB zd249_128 rfl rfl ?_
                refine zn_con hB zd249_130 rfl ?_
                refine zn_cne hB zd249_132 rfl (fun h132 => ?_) (fun h132 => ?_)
                · refine zn_ild hB zd249_175 rfl rfl ?_
                  refine zn_con hB zd249_176 rfl ?_
                  refine zn_isub hB zd249_177 (by omega) (by omega) ?_
                  refine zn_ist hB zd249_178 rfl rfl rfl ?_
                  refine zn_ild hB zd249_179 rfl rfl ?_
                  refine zn_con hB zd249_181 rfl ?_
                  refine zn_ceq hB zd249_182 rfl (fun h182 => ?_) (fun h182 => ?_)
                  · refine zn_ald hB zd249_192 rfl rfl rfl ?_
                    refine zn_getr hB zd249_193 rfl ?_
                    refine zn_ild hB zd249_196 rfl rfl ?_
                    refine zn_iald hB zd249_197 rfl rfl (by omega) (by omega) (fun q197 r197 => ?_)
                    refine zn_zne hB zd249_198 rfl (fun h198 => ?_) (fun h198 => ?_)
                    · refine zn_ald hB zd249_203 rfl rfl rfl ?_
                      refine zn_getr hB zd249_204 rfl ?_
                      refine zn_ild hB zd249_207 rfl rfl ?_
                      refine zn_con hB zd249_208 rfl ?_
                      refine zn_isub hB zd249_209 (by omega) (by omega) ?_
                      refine zn_ild hB zd249_210 rfl rfl ?_
                      refine zn_ald hB zd249_212 rfl rfl rfl ?_
                      refine zn_getr hB zd249_213 rfl ?_
                      refine zn_ild hB zd249_216 rfl rfl ?_
                      refine zn_con hB zd249_217 rfl ?_
                      refine zn_isub hB zd249_218 (by omega) (by omega) ?_
                      refine zn_iald hB zd249_219 rfl rfl (by omega) (by omega) (fun q219 r219 => ?_)
                      refine zn_ald hB zd249_220 rfl rfl rfl ?_
                      refine zn_getr hB zd249_221 rfl ?_
                      refine zn_ild hB zd249_224 rfl rfl ?_
                      refine zn_iald hB zd249_225 rfl rfl (by omega) (by omega) (fun q225 r225 => ?_)
                      refine zn_it3 hB zh250 zd249_226 zxt250 rfl ⟨rfl, by omega⟩ (fun r226 F226 G226 hq226 => ?_)
                      obtain ⟨rfl, rfl, v, rfl⟩ := hq226
                      refine zn_iast hB zd249_229 rfl rfl (by omega) (by omega) ?_
                      refine zn_goto hB zd249_230 rfl ?_
                      exact ih _ _ _ _ _ _ rfl (by omega) (by omega) (by omega) (by omega) (by omega)
                    · refine zn_con hB zd249_201 rfl ?_
                      exact hret _ _ _ _ _ zd249_202 trivial ⟨_, _, rfl, rfl, rfl⟩
                  · refine zn_ild hB zd249_185 rfl rfl ?_
                    refine zn_con hB zd249_187 rfl ?_
                    refine zn_cne hB zd249_189 rfl (fun h189 => ?_) (fun h189 => ?_)
                    · refine zn_ald hB zd249_203 rfl rfl rfl ?_
                      refine zn_getr hB zd249_204 rfl ?_
                      refine zn_ild hB zd249_207 rfl rfl ?_
                      refine zn_con hB zd249_208 rfl ?_
                      refine zn_isub hB zd249_209 (by omega) (by omega) ?_
                      refine zn_ild hB zd249_210 rfl rfl ?_
                      refine zn_ald hB zd249_212 rfl rfl rfl ?_
                      refine zn_getr hB zd249_213 rfl ?_
                      refine zn_ild hB zd249_216 rfl rfl ?_
                      refine zn_con hB zd249_217 rfl ?_
                      refine zn_isub hB zd249_218 (by omega) (by omega) ?_
                      refine zn_iald hB zd249_219 rfl rfl (by omega) (by omega) (fun q219 r219 => ?_)
                      refine zn_ald hB zd249_220 rfl rfl rfl ?_
                      refine zn_getr hB zd249_221 rfl ?_
                      refine zn_ild hB zd249_224 rfl rfl ?_
                      refine zn_iald hB zd249_225 rfl rfl (by omega) (by omega) (fun q225 r225 => ?_)
                      refine zn_it3 hB zh250 zd249_226 zxt250 rfl ⟨rfl, by omega⟩ (fun r226 F226 G226 hq226 => ?_)
                      obtain ⟨rfl, rfl, v, rfl⟩ := hq226
                      refine zn_iast hB zd249_229 rfl rfl (by omega) (by omega) ?_
                      refine zn_goto hB zd249_230 rfl ?_
                      exact ih _ _ _ _ _ _ rfl (by omega) (by omega) (by omega) (by omega) (by omega)
                    · refine zn_ald hB zd249_192 rfl rfl rfl ?_
                      refine zn_getr hB zd249_193 rfl ?_
                      refine zn_ild hB zd249_196 rfl rfl ?_
                      refine zn_iald hB zd249_197 rfl rfl (by omega) (by omega) (fun q197 r197 => ?_)
                      refine zn_zne hB zd249_198 rfl (fun h198 => ?_) (fun h198 => ?_)
                      · refine zn_ald hB zd249_203 rfl rfl rfl ?_
                        refine zn_getr hB zd249_204 rfl ?_
                        refine zn_ild hB zd249_207 rfl rfl ?_
                        refine zn_con hB zd249_208 rfl ?_
                        refine zn_isub hB zd249_209 (by omega) (by omega) ?_
                        refine zn_ild hB zd249_210 rfl rfl ?_
                        refine zn_ald hB zd249_212 rfl rfl rfl ?_
                        refine zn_getr hB zd249_213 rfl ?_
                        refine zn_ild hB zd249_216 rfl rfl ?_
                        refine zn_con hB zd249_217 rfl ?_
                        refine zn_isub hB zd249_218 (by omega) (by omega) ?_
                        refine zn_iald hB zd249_219 rfl rfl (by omega) (by omega) (fun q219 r219 => ?_)
                        refine zn_ald hB zd249_220 rfl rfl rfl ?_
                        refine zn_getr hB zd249_221 rfl ?_
                        refine zn_ild hB zd249_224 rfl rfl ?_
                        refine zn_iald hB zd249_225 rfl rfl (by omega) (by omega) (fun q225 r225 => ?_)
                        refine zn_it3 hB zh250 zd249_226 zxt250 rfl ⟨rfl, by omega⟩ (fun r226 F226 G226 hq226 => ?_)
                        obtain ⟨rfl, rfl, v, rfl⟩ := hq226
                        refine zn_iast hB zd249_229 rfl rfl (by omega) (by omega) ?_
                        refine zn_goto hB zd249_230 rfl ?_
                        exact ih _ _ _ _ _ _ rfl (by omega) (by omega) (by omega) (by omega) (by omega)
                      · refine zn_con hB zd249_201 rfl ?_
                        exact hret _ _ _ _ _ zd249_202 trivial ⟨_, _, rfl, rfl, rfl⟩
                · refine zn_ald hB zd249_135 rfl rfl rfl ?_
                  refine zn_getr hB zd249_136 rfl ?_
                  refine zn_ild hB zd249_139 rfl rfl ?_
                  refine zn_con hB zd249_140 rfl ?_
                  refine zn_isub hB zd249_141 (by omega) (by omega) ?_
                  refine zn_iald hB zd249_142 rfl rfl (by omega) (by omega) (fun q142 r142 => ?_)
                  refine zn_ild hB zd249_143 rfl rfl ?_
                  refine zn_con hB zd249_145 rfl ?_
                  refine zn_cne hB zd249_147 rfl (fun h147 => ?_) (fun h147 => ?_)
                  · refine zn_con hB zd249_154 rfl ?_
                    refine zn_cne hB zd249_155 rfl (fun h155 => ?_) (fun h155 => ?_)
                    · refine zn_ild hB zd249_168 rfl rfl ?_
                      refine zn_con hB zd249_169 rfl ?_
                      refine zn_isub hB zd249_170 (by omega) (by omega) ?_
                      refine zn_ist hB zd249_171 rfl rfl rfl ?_
                      refine zn_goto hB zd249_172 rfl ?_
                      refine zn_goto hB zd249_230 rfl ?_
                      exact ih _ _ _ _ _ _ rfl (by omega) (by omega) (by omega) (by omega) (by omega)
                    · refine zn_ild hB zd249_158 rfl rfl ?_
                      refine zn_ild hB zd249_160 rfl rfl ?_
                      refine zn_iadd hB zd249_162 (by omega) (by omega) ?_
                      refine zn_ist hB zd249_163 rfl rfl rfl ?_
                      refine zn_goto hB zd249_165 rfl ?_
                      refine zn_goto hB zd249_230 rfl ?_
                      exact ih _ _ _ _ _ _ rfl (by omega) (by omega) (by omega) (by omega) (by omega)
                  · refine zn_con hB zd249_150 rfl ?_
                    refine zn_goto hB zd249_151 rfl ?_
                    refine zn_cne hB zd249_155 rfl (fun h155 => ?_) (fun h155 => ?_)
                    · refine zn_ild hB zd249_168 rfl rfl ?_
                      refine zn_con hB zd249_169 rfl ?_
                      refine zn_isub hB zd249_170 (by omega) (by omega) ?_
                      refine zn_ist hB zd249_171 rfl rfl rfl ?_
                      refine zn_goto hB zd249_172 rfl ?_
                      refine zn_goto hB zd249_230 rfl ?_
                      exact ih _ _ _ _ _ _ rfl (by omega) (by omega) (by omega) (by omega) (by omega)
                    · refine zn_ild hB zd249_158 rfl rfl ?_
                      refine zn_ild hB zd249_160 rfl rfl ?_
                      refine zn_iadd hB zd249_162 (by omega) (by omega) ?_
                      refine zn_ist hB zd249_163 rfl rfl rfl ?_
                      refine zn_goto hB zd249_165 rfl ?_
                      refine zn_goto hB zd249_230 rfl ?_
                      exact ih _ _ _ _ _ _ rfl (by omega) (by omega) (by omega) (by omega) (by omega)
            · refine zn_ald hB zd249_100 rfl rfl rfl ?_
              refine zn_getr hB zd249_101 rfl ?_
              refine zn_ild hB zd249_104 rfl rfl ?_
              refine zn_con hB zd249_105 rfl ?_
              refine zn_isub hB zd249_106 (by omega) (by omega) ?_
              refine zn_con hB zd249_107 rfl ?_
              refine zn_ald hB zd249_108 rfl rfl rfl ?_
              refine zn_getr hB zd249_109 rfl ?_
              refine zn_ild hB zd249_112 rfl rfl ?_
              refine zn_con hB zd249_113 rfl ?_
              refine zn_isub hB zd249_114 (by omega) (by omega) ?_
              refine zn_iald hB zd249_115 rfl rfl (by omega) (by omega) (fun q115 r115 => ?_)
              refine zn_any hB zd249_116 rfl (fun v116 q116 r116 => ?_)
              refine zn_iast hB zd249_117 rfl rfl (by omega) (by omega) ?_
              refine zn_goto hB zd249_118 rfl ?_
              refine zn_goto hB zd249_230 rfl ?_
              exact ih _ _ _ _ _ _ rfl (by omega) (by omega) (by omega) (by omega) (by omega)
          · refine zn_ald hB zd249_63 rfl rfl rfl ?_
            refine zn_getr hB zd249_64 rfl ?_
            refine zn_ild hB zd249_67 rfl rfl ?_
            refine zn_ild hB zd249_68 rfl rfl ?_
            refine zn_zne hB zd249_70 rfl (fun h70 => ?_) (fun h70 => ?_)
            · refine zn_ald hB zd249_78 rfl rfl rfl ?_
              refine zn_getr hB zd249_79 rfl ?_
              refine zn_ild hB zd249_82 rfl rfl ?_
              refine zn_iald hB zd249_84 rfl rfl (by omega) (by omega) (fun q84 r84 => ?_)
              refine zn_iast hB zd249_85 rfl rfl (by omega) (by omega) ?_
              refine zn_ild hB zd249_86 rfl rfl ?_
              refine zn_con hB zd249_87 rfl ?_
              refine zn_iadd hB zd249_88 (by omega) (by omega) ?_
              refine zn_ist hB zd249_89 rfl rfl rfl ?_
              refine zn_goto hB zd249_90 rfl ?_
              refine zn_goto hB zd249_230 rfl ?_
              exact ih _ _ _ _ _ _ rfl (by omega) (by omega) (by omega) (by omega) (by omega)
            · exfalso; omega
  refine zn_con hB zd249_0 rfl ?_
  refine zn_ist hB zd249_1 rfl rfl rfl ?_
  refine zn_con hB zd249_2 rfl ?_
  refine zn_ild hB zd249_5 rfl rfl ?_
  refine zn_con hB zd249_6 rfl ?_
  refine zn_idiv hB zd249_9 (by omega) (by omega) ?_
  refine zn_imul hB zd249_10 (by omega) (by omega) ?_
  refine zn_ist hB zd249_11 rfl rfl rfl ?_
  refine zn_ild hB zd249_13 rfl rfl ?_
  refine zn_ist hB zd249_14 rfl rfl rfl ?_
  exact key ((cm - fr).toNat + 1) _ _ _ _ _ _ (by omega) (Int.le_refl _) (by omega) (by omega) (by omega) (by omega)
end ZCOMES
