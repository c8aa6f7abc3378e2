/-! What is sold: the way back through the rows. -/
abbrev zySo : zNL := (5, [(0, 12)], [], [(0, 12, 0, 1), (0, 12, 49, 2), (0, 12, 50, 3), (0, 12, 51, 4)], [(1, 0, 422, 0), (2, 0, 24, 1), (3, 0, 24, 2), (4, 0, 25000, 3)])
/-- rows that are laid: where one differs from the one ahead, the load fits -/
def zo_I (he mb : Int → Int) (most i : Int) : Prop := ∀ k c, 0 ≤ k → k < i → 0 ≤ c → c ≤ most → mb (1000 * (k + 1) + c) = mb (1000 * k + c) ∨ he k ≤ c
section ZSOLD
variable {most what : Int} {now wo he mb : Int → Int} {Gr : List (Int → Int)} {F : List Int}
theorem zh204o {a b : Int} : zn_OK z_TB z_cl z_KX zySo zxm204 (0, 0) (fun va F G => va = [.inl a, .inl b]) (fun va F G r F' G' => F' = F ∧ G' = G ∧ (r = some 0 ∨ r = some 1)) := zn_meth (K := zkM) (FT := z_FT) (MT := z_MT) (n := 2) zxp204 (z_ks13 _ (fun _ h => List.mem_cons_of_mem _ h) _ _ _ _ (fun j r h _ => by cases h)) (fun _ _ => zs_KX_p) (by decide +kernel) (fun va F G h => by obtain ⟨rfl, _⟩ := h; rfl) rfl fun good va F G hB hret hvret hP => by
  subst hP
  refine zn_ild hB zd204_0 rfl rfl ?_
  refine zn_ild hB zd204_1 rfl rfl ?_
  refine zn_any hB zd204_2 rfl (fun v2 q2 r2 => ?_)
  refine zn_con hB zd204_3 rfl ?_
  refine zn_and hB zd204_4 (by omega) (fun v4 q4 r4 => ?_)
  refine zn_con hB zd204_5 rfl ?_
  refine zn_cne hB zd204_6 rfl (fun h6 => ?_) (fun h6 => ?_)
  · refine zn_con hB zd204_13 rfl ?_
    refine hret _ _ _ _ _ zd204_14 (by constructor <;> decide) ⟨rfl, rfl, ?_⟩
    first | exact Or.inl rfl | exact Or.inr rfl
  · refine zn_con hB zd204_9 rfl ?_
    refine zn_goto hB zd204_10 rfl ?_
    refine hret _ _ _ _ _ zd204_14 (by constructor <;> decide) ⟨rfl, rfl, ?_⟩
    first | exact Or.inl rfl | exact Or.inr rfl
theorem zd203_0 : decode zxm203.2.1 0 = .ok (.iload_n 1, 1) := by decide +kernel
theorem zd203_1 : decode zxm203.2.1 1 = .ok (.ifCond .lt 27, 3) := by decide +kernel
theorem zd203_4 : decode zxm203.2.1 4 = .ok (.iload_n 1, 1) := by decide +kernel
theorem zd203_5 : decode zxm203.2.1 5 = .ok (.bipush 24, 2) := by decide +kernel
theorem zd203_7 : decode zxm203.2.1 7 = .ok (.if_icmp .ge 21, 3) := by decide +kernel
theorem zd203_10 : decode zxm203.2.1 10 = .ok (.aload_n 0, 1) := by decide +kernel
theorem zd203_11 : decode zxm203.2.1 11 = .ok (.getfield 7, 3) := by decide +kernel
theorem zd203_14 : decode zxm203.2.1 14 = .ok (.bipush 126, 2) := by decide +kernel
theorem zd203_16 : decode zxm203.2.1 16 = .ok (.iaload, 1) := by decide +kernel
theorem zd203_17 : decode zxm203.2.1 17 = .ok (.iload_n 1, 1) := by decide +kernel
theorem zd203_18 : decode zxm203.2.1 18 = .ok (.invokestatic 138, 3) := by decide +kernel
theorem zd203_21 : decode zxm203.2.1 21 = .ok (.ifCond .eq 7, 3) := by decide +kernel
theorem zd203_24 : decode zxm203.2.1 24 = .ok (.iconst 1, 1) := by decide +kernel
theorem zd203_25 : decode zxm203.2.1 25 = .ok (.goto 4, 3) := by decide +kernel
theorem zd203_28 : decode zxm203.2.1 28 = .ok (.iconst 0, 1) := by decide +kernel
theorem zd203_29 : decode zxm203.2.1 29 = .ok (.ireturn, 1) := by decide +kernel
theorem zh203o {a : Int} : zn_OK z_TB z_cl z_KX zySo zxm203 (1, 60) (fun va F G => va = [.inr 0, .inl a] ∧ G = now :: Gr) (fun va F G r F' G' => F' = F ∧ G' = G ∧ (r = some 0 ∨ r = some 1)) := zn_meth (K := zkM) (FT := z_FT) (MT := z_MT) (n := 2) zxp203 (z_ks13 _ (fun _ h => List.mem_cons_of_mem _ h) _ _ _ _ (fun j r h _ => by cases h)) (fun _ _ => zs_KX_p) (by decide +kernel) (fun va F G h => by obtain ⟨rfl, _⟩ := h; rfl) rfl fun good va F G hB hret hvret hP => by
  obtain ⟨rfl, rfl⟩ := hP
  refine zn_ild hB zd203_0 rfl rfl ?_
  refine zn_zlt hB zd203_1 rfl (fun h1 => ?_) (fun h1 => ?_)
  · refine zn_con hB zd203_28 rfl ?_
    refine hret _ _ _ _ _ zd203_29 (by constructor <;> decide) ⟨rfl, rfl, ?_⟩
    first | exact Or.inl rfl | exact Or.inr rfl
  · refine zn_ild hB zd203_4 rfl rfl ?_
    refine zn_con hB zd203_5 rfl ?_
    refine zn_cge hB zd203_7 rfl (fun h7 => ?_) (fun h7 => ?_)
    · refine zn_con hB zd203_28 rfl ?_
      refine hret _ _ _ _ _ zd203_29 (by constructor <;> decide) ⟨rfl, rfl, ?_⟩
      first | exact Or.inl rfl | exact Or.inr rfl
    · refine zn_ald hB zd203_10 rfl rfl rfl ?_
      refine zn_getr hB zd203_11 rfl ?_
      refine zn_con hB zd203_14 rfl ?_
      refine zn_iald hB zd203_16 rfl rfl (by omega) (by omega) (fun q16 r16 => ?_)
      refine zn_ild hB zd203_17 rfl rfl ?_
      refine zn_it2 hB zh204o zd203_18 zxt204 rfl rfl (fun r18 F18 G18 hq18 => ?_)
      obtain ⟨rfl, rfl, hx18⟩ := hq18
      rcases hx18 with rfl | rfl
      · refine zn_zeq hB zd203_21 rfl (fun h21 => ?_) (fun h21 => ?_)
        · refine zn_con hB zd203_28 rfl ?_
          refine hret _ _ _ _ _ zd203_29 (by constructor <;> decide) ⟨rfl, rfl, ?_⟩
          first | exact Or.inl rfl | exact Or.inr rfl
        · refine zn_con hB zd203_24 rfl ?_
          refine zn_goto hB zd203_25 rfl ?_
          refine hret _ _ _ _ _ zd203_29 (by constructor <;> decide) ⟨rfl, rfl, ?_⟩
          first | exact Or.inl rfl | exact Or.inr rfl
      · refine zn_zeq hB zd203_21 rfl (fun h21 => ?_) (fun h21 => ?_)
        · refine zn_con hB zd203_28 rfl ?_
          refine hret _ _ _ _ _ zd203_29 (by constructor <;> decide) ⟨rfl, rfl, ?_⟩
          first | exact Or.inl rfl | exact Or.inr rfl
        · refine zn_con hB zd203_24 rfl ?_
          refine zn_goto hB zd203_25 rfl ?_
          refine hret _ _ _ _ _ zd203_29 (by constructor <;> decide) ⟨rfl, rfl, ?_⟩
          first | exact Or.inl rfl | exact Or.inr rfl
theorem zd258_0 : decode zxm258.2.1 0 = .ok (.iload_n 0, 1) := by decide +kernel
theorem zd258_1 : decode zxm258.2.1 1 = .ok (.iload_n 1, 1) := by decide +kernel
theorem zd258_2 : decode zxm258.2.1 2 = .ok (.if_icmp .le 7, 3) := by decide +kernel
theorem zd258_5 : decode zxm258.2.1 5 = .ok (.iload_n 0, 1) := by decide +kernel
theorem zd258_6 : decode zxm258.2.1 6 = .ok (.goto 4, 3) := by decide +kernel
theorem zd258_9 : decode zxm258.2.1 9 = .ok (.iload_n 1, 1) := by decide +kernel
theorem zd258_10 : decode zxm258.2.1 10 = .ok (.ireturn, 1) := by decide +kernel
theorem zh258o {x z : Int} : zn_OK z_TB z_cl z_KX zySo zxm258 (0, 0) (fun va F G => va = [.inl x, .inl z]) (fun va F G r F' G' => F' = F ∧ G' = G ∧ ∃ v, r = some v) := zn_meth (K := zkM) (FT := z_FT) (MT := z_MT) (n := 2) zxp258 (z_ks13 _ (fun _ h => List.mem_cons_of_mem _ h) _ _ _ _ (fun j r h _ => by cases h)) (fun _ _ => zs_KX_p) (by decide +kernel) (fun va F G h => by obtain ⟨rfl, _⟩ := h; rfl) rfl fun good va F G hB hret hvret hP => by
  subst hP
  refine zn_ild hB zd258_0 rfl rfl ?_
  refine zn_ild hB zd258_1 rfl rfl ?_
  refine zn_cle hB zd258_2 rfl (fun h2 => ?_) (fun h2 => ?_)
  · refine zn_ild hB zd258_9 rfl rfl ?_
    exact hret _ _ _ _ _ zd258_10 trivial ⟨rfl, rfl, _, rfl⟩
  · refine zn_ild hB zd258_5 rfl rfl ?_
    refine zn_goto hB zd258_6 rfl ?_
    exact hret _ _ _ _ _ zd258_10 trivial ⟨rfl, rfl, _, rfl⟩
theorem zd287_94 : decode zxm287.2.1 94 = .ok (.iconst 0, 1) := by decide +kernel
theorem zd287_95 : decode zxm287.2.1 95 = .ok (.istore_n 3, 1) := by decide +kernel
theorem zd287_96 : decode zxm287.2.1 96 = .ok (.iload_n 3, 1) := by decide +kernel
theorem zd287_97 : decode zxm287.2.1 97 = .ok (.iload_n 1, 1) := by decide +kernel
theorem zd287_98 : decode zxm287.2.1 98 = .ok (.if_icmp .gt 16, 3) := by decide +kernel
theorem zd287_101 : decode zxm287.2.1 101 = .ok (.aload_n 0, 1) := by decide +kernel
theorem zd287_102 : decode zxm287.2.1 102 = .ok (.getfield 110, 3) := by decide +kernel
theorem zd287_105 : decode zxm287.2.1 105 = .ok (.iload_n 3, 1) := by decide +kernel
theorem zd287_106 : decode zxm287.2.1 106 = .ok (.iconst 0, 1) := by decide +kernel
theorem zd287_107 : decode zxm287.2.1 107 = .ok (.iastore, 1) := by decide +kernel
theorem zd287_108 : decode zxm287.2.1 108 = .ok (.iinc 3 1, 3) := by decide +kernel
theorem zd287_111 : decode zxm287.2.1 111 = .ok (.goto (-15), 3) := by decide +kernel
theorem zd287_114 : decode zxm287.2.1 114 = .ok (.iconst 0, 1) := by decide +kernel
theorem zd287_115 : decode zxm287.2.1 115 = .ok (.istore_n 3, 1) := by decide +kernel
theorem zd287_116 : decode zxm287.2.1 116 = .ok (.iload_n 3, 1) := by decide +kernel
theorem zd287_117 : decode zxm287.2.1 117 = .ok (.bipush 24, 2) := by decide +kernel
theorem zd287_119 : decode zxm287.2.1 119 = .ok (.if_icmp .ge 110, 3) := by decide +kernel
theorem zd287_122 : decode zxm287.2.1 122 = .ok (.iconst 0, 1) := by decide +kernel
theorem zd287_123 : decode zxm287.2.1 123 = .ok (.istore 4, 2) := by decide +kernel
theorem zd287_125 : decode zxm287.2.1 125 = .ok (.iload 4, 2) := by decide +kernel
theorem zd287_127 : decode zxm287.2.1 127 = .ok (.iload_n 1, 1) := by decide +kernel
theorem zd287_128 : decode zxm287.2.1 128 = .ok (.if_icmp .gt 95, 3) := by decide +kernel
theorem zd287_131 : decode zxm287.2.1 131 = .ok (.aload_n 0, 1) := by decide +kernel
theorem zd287_132 : decode zxm287.2.1 132 = .ok (.getfield 110, 3) := by decide +kernel
theorem zd287_135 : decode zxm287.2.1 135 = .ok (.sipush 1000, 3) := by decide +kernel
theorem zd287_138 : decode zxm287.2.1 138 = .ok (.iload_n 3, 1) := by decide +kernel
theorem zd287_139 : decode zxm287.2.1 139 = .ok (.imul, 1) := by decide +kernel
theorem zd287_140 : decode zxm287.2.1 140 = .ok (.iload 4, 2) := by decide +kernel
theorem zd287_142 : decode zxm287.2.1 142 = .ok (.iadd, 1) := by decide +kernel
theorem zd287_143 : decode zxm287.2.1 143 = .ok (.iaload, 1) := by decide +kernel
theorem zd287_144 : decode zxm287.2.1 144 = .ok (.istore 5, 2) := by decide +kernel
theorem zd287_146 : decode zxm287.2.1 146 = .ok (.aload_n 0, 1) := by decide +kernel
theorem zd287_147 : decode zxm287.2.1 147 = .ok (.getfield 110, 3) := by decide +kernel
theorem zd287_150 : decode zxm287.2.1 150 = .ok (.sipush 1000, 3) := by decide +kernel
theorem zd287_153 : decode zxm287.2.1 153 = .ok (.iload_n 3, 1) := by decide +kernel
theorem zd287_154 : decode zxm287.2.1 154 = .ok (.iconst 1, 1) := by decide +kernel
theorem zd287_155 : decode zxm287.2.1 155 = .ok (.iadd, 1) := by decide +kernel
theorem zd287_156 : decode zxm287.2.1 156 = .ok (.imul, 1) := by decide +kernel
theorem zd287_157 : decode zxm287.2.1 157 = .ok (.iload 4, 2) := by decide +kernel
theorem zd287_159 : decode zxm287.2.1 159 = .ok (.iadd, 1) := by decide +kernel
theorem zd287_160 : decode zxm287.2.1 160 = .ok (.aload_n 0, 1) := by decide +kernel
theorem zd287_161 : decode zxm287.2.1 161 = .ok (.iload_n 3, 1) := by decide +kernel
theorem zd287_162 : decode zxm287.2.1 162 = .ok (.invokevirtual 157, 3) := by decide +kernel
theorem zd287_165 : decode zxm287.2.1 165 = .ok (.ifCond .eq 49, 3) := by decide +kernel
theorem zd287_168 : decode zxm287.2.1 168 = .ok (.aload_n 0, 1) := by decide +kernel
theorem zd287_169 : decode zxm287.2.1 169 = .ok (.getfield 107, 3) := by decide +kernel
theorem zd287_172 : decode zxm287.2.1 172 = .ok (.iload_n 3, 1) := by decide +kernel
theorem zd287_173 : decode zxm287.2.1 173 = .ok (.iaload, 1) := by decide +kernel
theorem zd287_174 : decode zxm287.2.1 174 = .ok (.iload 4, 2) := by decide +kernel
theorem zd287_176 : decode zxm287.2.1 176 = .ok (.if_icmp .gt 38, 3) := by decide +kernel
theorem zd287_179 : decode zxm287.2.1 179 = .ok (.iload 5, 2) := by decide +kernel
theorem zd287_181 : decode zxm287.2.1 181 = .ok (.aload_n 0, 1) := by decide +kernel
theorem zd287_182 : decode zxm287.2.1 182 = .ok (.getfield 104, 3) := by decide +kernel
theorem zd287_185 : decode zxm287.2.1 185 = .ok (.iload_n 3, 1) := by decide +kernel
theorem zd287_186 : decode zxm287.2.1 186 = .ok (.iaload, 1) := by decide +kernel
theorem zd287_187 : decode zxm287.2.1 187 = .ok (.aload_n 0, 1) := by decide +kernel
theorem zd287_188 : decode zxm287.2.1 188 = .ok (.getfield 110, 3) := by decide +kernel
theorem zd287_191 : decode zxm287.2.1 191 = .ok (.sipush 1000, 3) := by decide +kernel
theorem zd287_194 : decode zxm287.2.1 194 = .ok (.iload_n 3, 1) := by decide +kernel
theorem zd287_195 : decode zxm287.2.1 195 = .ok (.imul, 1) := by decide +kernel
theorem zd287_196 : decode zxm287.2.1 196 = .ok (.iload 4, 2) := by decide +kernel
theorem zd287_198 : decode zxm287.2.1 198 = .ok (.iadd, 1) := by decide +kernel
theorem zd287_199 : decode zxm287.2.1 199 = .ok (.aload_n 0, 1) := by decide +kernel
theorem zd287_200 : decode zxm287.2.1 200 = .ok (.getfield 107, 3) := by decide +kernel
theorem zd287_203 : decode zxm287.2.1 203 = .ok (.iload_n 3, 1) := by decide +kernel
theorem zd287_204 : decode zxm287.2.1 204 = .ok (.iaload, 1) := by decide +kernel
theorem zd287_205 : decode zxm287.2.1 205 = .ok (.isub, 1) := by decide +kernel
theorem zd287_206 : decode zxm287.2.1 206 = .ok (.iaload, 1) := by decide +kernel
theorem zd287_207 : decode zxm287.2.1 207 = .ok (.iadd, 1) := by decide +kernel
theorem zd287_208 : decode zxm287.2.1 208 = .ok (.invokestatic 324, 3) := by decide +kernel
theorem zd287_211 : decode zxm287.2.1 211 = .ok (.goto 5, 3) := by decide +kernel
theorem zd287_214 : decode zxm287.2.1 214 = .ok (.iload 5, 2) := by decide +kernel
theorem zd287_216 : decode zxm287.2.1 216 = .ok (.iastore, 1) := by decide +kernel
theorem zd287_217 : decode zxm287.2.1 217 = .ok (.iinc 4 1, 3) := by decide +kernel
theorem zd287_220 : decode zxm287.2.1 220 = .ok (.goto (-95), 3) := by decide +kernel
theorem zd287_223 : decode zxm287.2.1 223 = .ok (.iinc 3 1, 3) := by decide +kernel
theorem zd287_226 : decode zxm287.2.1 226 = .ok (.goto (-110), 3) := by decide +kernel
theorem zd287_229 : decode zxm287.2.1 229 = .ok (.iload_n 1, 1) := by decide +kernel
theorem zd287_230 : decode zxm287.2.1 230 = .ok (.istore_n 3, 1) := by decide +kernel
theorem zd287_231 : decode zxm287.2.1 231 = .ok (.iconst 0, 1) := by decide +kernel
theorem zd287_232 : decode zxm287.2.1 232 = .ok (.istore 4, 2) := by decide +kernel
theorem zd287_234 : decode zxm287.2.1 234 = .ok (.bipush 23, 2) := by decide +kernel
theorem zd287_236 : decode zxm287.2.1 236 = .ok (.istore 5, 2) := by decide +kernel
theorem zd287_238 : decode zxm287.2.1 238 = .ok (.iload 5, 2) := by decide +kernel
theorem zd287_240 : decode zxm287.2.1 240 = .ok (.ifCond .lt 62, 3) := by decide +kernel
theorem zd287_243 : decode zxm287.2.1 243 = .ok (.aload_n 0, 1) := by decide +kernel
theorem zd287_244 : decode zxm287.2.1 244 = .ok (.getfield 110, 3) := by decide +kernel
theorem zd287_247 : decode zxm287.2.1 247 = .ok (.sipush 1000, 3) := by decide +kernel
theorem zd287_250 : decode zxm287.2.1 250 = .ok (.iload 5, 2) := by decide +kernel
theorem zd287_252 : decode zxm287.2.1 252 = .ok (.imul, 1) := by decide +kernel
theorem zd287_253 : decode zxm287.2.1 253 = .ok (.iload_n 3, 1) := by decide +kernel
theorem zd287_254 : decode zxm287.2.1 254 = .ok (.iadd, 1) := by decide +kernel
theorem zd287_255 : decode zxm287.2.1 255 = .ok (.iaload, 1) := by decide +kernel
theorem zd287_256 : decode zxm287.2.1 256 = .ok (.aload_n 0, 1) := by decide +kernel
theorem zd287_257 : decode zxm287.2.1 257 = .ok (.getfield 110, 3) := by decide +kernel
theorem zd287_260 : decode zxm287.2.1 260 = .ok (.sipush 1000, 3) := by decide +kernel
theorem zd287_263 : decode zxm287.2.1 263 = .ok (.iload 5, 2) := by decide +kernel
theorem zd287_265 : decode zxm287.2.1 265 = .ok (.iconst 1, 1) := by decide +kernel
theorem zd287_266 : decode zxm287.2.1 266 = .ok (.iadd, 1) := by decide +kernel
theorem zd287_267 : decode zxm287.2.1 267 = .ok (.imul, 1) := by decide +kernel
theorem zd287_268 : decode zxm287.2.1 268 = .ok (.iload_n 3, 1) := by decide +kernel
theorem zd287_269 : decode zxm287.2.1 269 = .ok (.iadd, 1) := by decide +kernel
theorem zd287_270 : decode zxm287.2.1 270 = .ok (.iaload, 1) := by decide +kernel
theorem zd287_271 : decode zxm287.2.1 271 = .ok (.if_icmp .ne 6, 3) := by decide +kernel
theorem zd287_274 : decode zxm287.2.1 274 = .ok (.goto 22, 3) := by decide +kernel
theorem zd287_277 : decode zxm287.2.1 277 = .ok (.iload 4, 2) := by decide +kernel
theorem zd287_279 : decode zxm287.2.1 279 = .ok (.iconst 1, 1) := by decide +kernel
theorem zd287_280 : decode zxm287.2.1 280 = .ok (.iload 5, 2) := by decide +kernel
theorem zd287_282 : decode zxm287.2.1 282 = .ok (.ishl, 1) := by decide +kernel
theorem zd287_283 : decode zxm287.2.1 283 = .ok (.ior, 1) := by decide +kernel
theorem zd287_284 : decode zxm287.2.1 284 = .ok (.istore 4, 2) := by decide +kernel
theorem zd287_286 : decode zxm287.2.1 286 = .ok (.iload_n 3, 1) := by decide +kernel
theorem zd287_287 : decode zxm287.2.1 287 = .ok (.aload_n 0, 1) := by decide +kernel
theorem zd287_288 : decode zxm287.2.1 288 = .ok (.getfield 107, 3) := by decide +kernel
theorem zd287_291 : decode zxm287.2.1 291 = .ok (.iload 5, 2) := by decide +kernel
theorem zd287_293 : decode zxm287.2.1 293 = .ok (.iaload, 1) := by decide +kernel
theorem zd287_294 : decode zxm287.2.1 294 = .ok (.isub, 1) := by decide +kernel
theorem zd287_295 : decode zxm287.2.1 295 = .ok (.istore_n 3, 1) := by decide +kernel
theorem zd287_296 : decode zxm287.2.1 296 = .ok (.iinc 5 (-1), 3) := by decide +kernel
theorem zd287_299 : decode zxm287.2.1 299 = .ok (.goto (-61), 3) := by decide +kernel
theorem zd287_302 : decode zxm287.2.1 302 = .ok (.iload_n 2, 1) := by decide +kernel
theorem zd287_303 : decode zxm287.2.1 303 = .ok (.ifCond .ne 16, 3) := by decide +kernel
theorem zd287_306 : decode zxm287.2.1 306 = .ok (.aload_n 0, 1) := by decide +kernel
theorem zd287_307 : decode zxm287.2.1 307 = .ok (.getfield 110, 3) := by decide +kernel
theorem zd287_310 : decode zxm287.2.1 310 = .ok (.sipush 24000, 3) := by decide +kernel
theorem zd287_313 : decode zxm287.2.1 313 = .ok (.iload_n 1, 1) := by decide +kernel
theorem zd287_314 : decode zxm287.2.1 314 = .ok (.iadd, 1) := by decide +kernel
theorem zd287_315 : decode zxm287.2.1 315 = .ok (.iaload, 1) := by decide +kernel
theorem zd287_316 : decode zxm287.2.1 316 = .ok (.goto 16, 3) := by decide +kernel
theorem zd287_319 : decode zxm287.2.1 319 = .ok (.iload_n 2, 1) := by decide +kernel
theorem zd287_320 : decode zxm287.2.1 320 = .ok (.iconst 1, 1) := by decide +kernel
theorem zd287_321 : decode zxm287.2.1 321 = .ok (.if_icmp .ne 8, 3) := by decide +kernel
theorem zd287_324 : decode zxm287.2.1 324 = .ok (.iload 4, 2) := by decide +kernel
theorem zd287_326 : decode zxm287.2.1 326 = .ok (.goto 6, 3) := by decide +kernel
theorem zd287_329 : decode zxm287.2.1 329 = .ok (.iload_n 1, 1) := by decide +kernel
theorem zd287_330 : decode zxm287.2.1 330 = .ok (.iload_n 3, 1) := by decide +kernel
theorem zd287_331 : decode zxm287.2.1 331 = .ok (.isub, 1) := by decide +kernel
theorem zd287_332 : decode zxm287.2.1 332 = .ok (.ireturn, 1) := by decide +kernel
theorem zo_tail {good : Nat → List zNV → List zNV → List Int → List (Int → Int) → Prop} {x3 x4 x5 : zNV} (hB : zn_B z_cl z_FT z_KX z_TB z_MT zySo zxm287 zkM (2, 120) good)
    (hret : ∀ pc L v mb, decode zxm287.2.1 pc = .ok (.ireturn, 1) → good pc L [.inl v] F (now :: wo :: he :: mb :: Gr)) (h0 : 0 ≤ most) (h1 : most ≤ 999) (hh : ∀ i, 0 ≤ i → i < 24 → 0 ≤ he i ∧ he i ≤ 99) : good 94 [.inr 0, .inl most, .inl what, x3, x4, x5] [] F (now :: wo :: he :: mb :: Gr) := by
  have back : ∀ (m : Nat) (i left set : Int) (mb : Int → Int), i + 1 < m → -1 ≤ i → i ≤ 23 → 0 ≤ left → left ≤ most → zo_I he mb most 24 → good 238 [.inr 0, .inl most, .inl what, .inl left, .inl set, .inl i] [] F (now :: wo :: he :: mb :: Gr) := by
    intro m
    induction m with
    | zero =>
      intro i left set mb c1 c2
      exfalso; omega
    | succ m ih =>
      intro i left set mb c1 c2 c3 c4 c5 c6
      refine zn_ild hB zd287_238 rfl rfl ?_
      refine zn_zlt hB zd287_240 rfl (fun h240 => ?_) (fun h240 => ?_)
      · refine zn_ild hB zd287_302 rfl rfl ?_
        refine zn_zne hB zd287_303 rfl (fun h303 => ?_) (fun h303 => ?_)
        · refine zn_ild hB zd287_319 rfl rfl ?_
          refine zn_con hB zd287_320 rfl ?_
          refine zn_cne hB zd287_321 rfl (fun h321 => ?_) (fun h321 => ?_)
          · refine zn_ild hB zd287_329 rfl rfl ?_
            refine zn_ild hB zd287_330 rfl rfl ?_
            refine zn_isub hB zd287_331 (by omega) (by omega) ?_
            exact hret _ _ _ _ zd287_332
          · refine zn_ild hB zd287_324 rfl rfl ?_
            refine zn_goto hB zd287_326 rfl ?_
            exact hret _ _ _ _ zd287_332
        · refine zn_ald hB zd287_306 rfl rfl rfl ?_
          refine zn_getr hB zd287_307 rfl ?_
          refine zn_con hB zd287_310 rfl ?_
          refine zn_ild hB zd287_313 rfl rfl ?_
          refine zn_iadd hB zd287_314 (by omega) (by omega) ?_
          refine zn_iald hB zd287_315 rfl rfl (by omega) (by omega) (fun q315 r315 => ?_)
          refine zn_goto hB zd287_316 rfl ?_
          exact hret _ _ _ _ zd287_332
      · refine zn_ald hB zd287_243 rfl rfl rfl ?_
        refine zn_getr hB zd287_244 rfl ?_
        refine zn_con hB zd287_247 rfl ?_
        refine zn_ild hB zd287_250 rfl rfl ?_
        refine zn_imul hB zd287_252 (by omega) (by omega) ?_
        refine zn_ild hB zd287_253 rfl rfl ?_
        refine zn_iadd hB zd287_254 (by omega) (by omega) ?_
        refine zn_iald hB zd287_255 rfl rfl (by omega) (by omega) (fun q255 r255 => ?_)
        refine zn_ald hB zd287_256 rfl rfl rfl ?_
        refine zn_getr hB zd287_257 rfl ?_
        refine zn_con hB zd287_260 rfl ?_
        refine zn_ild hB zd287_263 rfl rfl ?_
        refine zn_con hB zd287_265 rfl ?_
        refine zn_iadd hB zd287_266 (by omega) (by omega) ?_
        refine zn_imul hB zd287_267 (by omega) (by omega) ?_
        refine zn_ild hB zd287_268 rfl rfl ?_
        refine zn_iadd hB zd287_269 (by omega) (by omega) ?_
        refine zn_iald hB zd287_270 rfl rfl (by omega) (by omega) (fun q270 r270 => ?_)
        refine zn_cne hB zd287_271 rfl (fun h271 => ?_) (fun h271 => ?_)
        · have hz := c6 i left (by omega) (by omega) c4 c5
          have hfit : he i ≤ left := by
            rcases hz with hz | hz
            · exact absurd hz.symm h271
            · exact hz
          have hhi := hh i (by omega) (by omega)
          refine zn_ild hB zd287_277 rfl rfl ?_
          refine zn_con hB zd287_279 rfl ?_
          refine zn_ild hB zd287_280 rfl rfl ?_
          refine zn_any hB zd287_282 rfl (fun v282 q282 r282 => ?_)
          refine zn_any hB zd287_283 rfl (fun v283 q283 r283 => ?_)
          refine zn_ist hB zd287_284 rfl rfl rfl ?_
          refine zn_ild hB zd287_286 rfl rfl ?_
          refine zn_ald hB zd287_287 rfl rfl rfl ?_
          refine zn_getr hB zd287_288 rfl ?_
          refine zn_ild hB zd287_291 rfl rfl ?_
          refine zn_iald hB zd287_293 rfl rfl (by omega) (by omega) (fun q293 r293 => ?_)
          refine zn_isub hB zd287_294 (by omega) (by omega) ?_
          refine zn_ist hB zd287_295 rfl rfl rfl ?_
          refine zn_iinc hB zd287_296 rfl rfl (by omega) (by omega) ?_
          refine zn_goto hB zd287_299 rfl ?_
          exact ih _ _ _ _ (by omega) (by omega) (by omega) (by omega) (by omega) c6
        · refine zn_goto hB zd287_274 rfl ?_
          refine zn_iinc hB zd287_296 rfl rfl (by omega) (by omega) ?_
          refine zn_goto hB zd287_299 rfl ?_
          exact ih _ _ _ _ (by omega) (by omega) (by omega) (by omega) (by omega) c6
  have rows : ∀ (m : Nat), (∀ (i : Int) (x4 x5 : zNV) (mb : Int → Int), 2000 * (24 - i) < m → 0 ≤ i → i ≤ 24 → zo_I he mb most i → good 116 [.inr 0, .inl most, .inl what, .inl i, x4, x5] [] F (now :: wo :: he :: mb :: Gr)) ∧ (∀ (i c : Int) (x5 : zNV) (mb : Int → Int), 2000 * (24 - i) - 1 - c < m → 0 ≤ i → i < 24 → 0 ≤ c → c ≤ most + 1 → zo_I he mb most i → (∀ k, 0 ≤ k → k < c → mb (1000 * (i + 1) + k) = mb (1000 * i + k) ∨ he i ≤ k) → good 125 [.inr 0, .inl most, .inl what, .inl i, .inl c, x5] [] F (now :: wo :: he :: mb :: Gr)) := by
    intro m
    induction m with
    | zero =>
      constructor
      · intro i x4 x5 mb c1 c2 c3
        exfalso; omega
      · intro i c x5 mb c1 c2 c3 c4 c5
        exfalso; omega
    | succ m ih =>
      constructor
      · intro i x4 x5 mb c1 c2 c3 c4
        refine zn_ild hB zd287_116 rfl rfl ?_
        refine zn_con hB zd287_117 rfl ?_
        refine zn_cge hB zd287_119 rfl (fun h119 => ?_) (fun h119 => ?_)
        · refine zn_ild hB zd287_229 rfl rfl ?_
          refine zn_ist hB zd287_230 rfl rfl rfl ?_
          refine zn_con hB zd287_231 rfl ?_
          refine zn_ist hB zd287_232 rfl rfl rfl ?_
          refine zn_con hB zd287_234 rfl ?_
          refine zn_ist hB zd287_236 rfl rfl rfl ?_
          have e9 : i = 24 := by omega
          subst e9
          exact back 26 _ _ _ _ (by omega) (by omega) (by omega) h0 (Int.le_refl _) c4
        · refine zn_con hB zd287_122 rfl ?_
          refine zn_ist hB zd287_123 rfl rfl rfl ?_
          exact ih.2 _ _ _ _ (by omega) c2 (by omega) (by omega) (by omega) c4 (fun k k1 k2 => by omega)
      · intro i c x5 mb c1 c2 c3 c4 c5 c6 c7
        have hhi := hh i c2 (by omega)
        have put : ∀ (v : Int) (x5 : zNV), c ≤ most → (v = mb (1000 * i + c) ∨ he i ≤ c) → good 217 [.inr 0, .inl most, .inl what, .inl i, .inl c, x5] [] F (now :: wo :: he :: zn_up mb (1000 * (i + 1) + c) v :: Gr) := by
          intro v x5 d1 d2
          refine zn_iinc hB zd287_217 rfl rfl (by omega) (by omega) ?_
          refine zn_goto hB zd287_220 rfl ?_
          refine ih.2 _ _ _ _ (by omega) c2 c3 (by omega) (by omega) (fun k c9 k1 k2 k3 k4 => ?_) (fun k k1 k2 => ?_)
          · rw [zn_up_n (by omega), zn_up_n (by omega)]; exact c6 k c9 k1 k2 k3 k4
          · rw [zn_up_n (show 1000 * i + k ≠ 1000 * (i + 1) + c by omega)]
            by_cases e : k = c
            · rw [e, zn_up_s]
              rcases d2 with d2 | d2
              · exact Or.inl d2
              · exact Or.inr d2
            · rw [zn_up_n (by omega)]; exact c7 k k1 (by omega)
        refine zn_ild hB zd287_125 rfl rfl ?_
        refine zn_ild hB zd287_127 rfl rfl ?_
        refine zn_cgt hB zd287_128 rfl (fun h128 => ?_) (fun h128 => ?_)
        · refine zn_iinc hB zd287_223 rfl rfl (by omega) (by omega) ?_
          refine zn_goto hB zd287_226 rfl ?_
          refine ih.1 _ _ _ _ (by omega) (by omega) (by omega) (fun k c9 k1 k2 k3 k4 => ?_)
          by_cases e : k = i
          · rw [e]; exact c7 c9 k3 (by omega)
          · exact c6 k c9 k1 (by omega) k3 k4
        · refine zn_ald hB zd287_131 rfl rfl rfl ?_
          refine zn_getr hB zd287_132 rfl ?_
          refine zn_con hB zd287_135 rfl ?_
          refine zn_ild hB zd287_138 rfl rfl ?_
          refine zn_imul hB zd287_139 (by omega) (by omega) ?_
          refine zn_ild hB zd287_140 rfl rfl ?_
          refine zn_iadd hB zd287_142 (by omega) (by omega) ?_
          refine zn_iald hB zd287_143 rfl rfl (by omega) (by omega) (fun q143 r143 => ?_)
          refine zn_ist hB zd287_144 rfl rfl rfl ?_
          refine zn_ald hB zd287_146 rfl rfl rfl ?_
          refine zn_getr hB zd287_147 rfl ?_
          refine zn_con hB zd287_150 rfl ?_
          refine zn_ild hB zd287_153 rfl rfl ?_
          refine zn_con hB zd287_154 rfl ?_
          refine zn_iadd hB zd287_155 (by omega) (by omega) ?_
          refine zn_imul hB zd287_156 (by omega) (by omega) ?_
          refine zn_ild hB zd287_157 rfl rfl ?_
          refine zn_iadd hB zd287_159 (by omega) (by omega) ?_
          refine zn_ald hB zd287_160 rfl rfl rfl ?_
          refine zn_ild hB zd287_161 rfl rfl ?_
          refine zn_iv1 hB (zh203o (now := now)) zd287_162 zxt203 rfl ⟨rfl, rfl⟩ (fun r162 F162 G162 hq162 => ?_)
          obtain ⟨rfl, rfl, hx162⟩ := hq162
          rcases hx162 with rfl | rfl
          · refine zn_zeq hB zd287_165 rfl (fun h165 => ?_) (fun h165 => ?_)
            · refine zn_ild hB zd287_214 rfl rfl ?_
              refine zn_iast hB zd287_216 rfl rfl (by omega) (by omega) ?_
              first | exact put _ _ (by omega) (Or.inl rfl) | exact put _ _ (by omega) (Or.inr (by omega))
            · exfalso; omega
          · refine zn_zeq hB zd287_165 rfl (fun h165 => ?_) (fun h165 => ?_)
            · exfalso; omega
            · refine zn_ald hB zd287_168 rfl rfl rfl ?_
              refine zn_getr hB zd287_169 rfl ?_
              refine zn_ild hB zd287_172 rfl rfl ?_
              refine zn_iald hB zd287_173 rfl rfl (by omega) (by omega) (fun q173 r173 => ?_)
              refine zn_ild hB zd287_174 rfl rfl ?_
              refine zn_cgt hB zd287_176 rfl (fun h176 => ?_) (fun h176 => ?_)
              · refine zn_ild hB zd287_214 rfl rfl ?_
                refine zn_iast hB zd287_216 rfl rfl (by omega) (by omega) ?_
                first | exact put _ _ (by omega) (Or.inl rfl) | exact put _ _ (by omega) (Or.inr (by omega))
              · refine zn_ild hB zd287_179 rfl rfl ?_
                refine zn_ald hB zd287_181 rfl rfl rfl ?_
                refine zn_getr hB zd287_182 rfl ?_
                refine zn_ild hB zd287_185 rfl rfl ?_
                refine zn_iald hB zd287_186 rfl rfl (by omega) (by omega) (fun q186 r186 => ?_)
                refine zn_ald hB zd287_187 rfl rfl rfl ?_
                refine zn_getr hB zd287_188 rfl ?_
                refine zn_con hB zd287_191 rfl ?_
                refine zn_ild hB zd287_194 rfl rfl ?_
                refine zn_imul hB zd287_195 (by omega) (by omega) ?_
                refine zn_ild hB zd287_196 rfl rfl ?_
                refine zn_iadd hB zd287_198 (by omega) (by omega) ?_
                refine zn_ald hB zd287_199 rfl rfl rfl ?_
                refine zn_getr hB zd287_200 rfl ?_
                refine zn_ild hB zd287_203 rfl rfl ?_
                refine zn_iald hB zd287_204 rfl rfl (by omega) (by omega) (fun q204 r204 => ?_)
                refine zn_isub hB zd287_205 (by omega) (by omega) ?_
                refine zn_iald hB zd287_206 rfl rfl (by omega) (by omega) (fun q206 r206 => ?_)
                refine zn_any hB zd287_207 rfl (fun v207 q207 r207 => ?_)
                refine zn_it2 hB zh258o zd287_208 zxt258 rfl rfl (fun r208 F208 G208 hq208 => ?_)
                obtain ⟨rfl, rfl, v, rfl⟩ := hq208
                refine zn_goto hB zd287_211 rfl ?_
                refine zn_iast hB zd287_216 rfl rfl (by omega) (by omega) ?_
                first | exact put _ _ (by omega) (Or.inl rfl) | exact put _ _ (by omega) (Or.inr (by omega))
  have fill : ∀ (m : Nat) (c : Int) (x4 x5 : zNV) (mb : Int → Int), most + 1 - c < m → 0 ≤ c → good 96 [.inr 0, .inl most, .inl what, .inl c, x4, x5] [] F (now :: wo :: he :: mb :: Gr) := by
    intro m
    induction m with
    | zero =>
      intro c x4 x5 mb c1 c2
      refine zn_ild hB zd287_96 rfl rfl ?_
      refine zn_ild hB zd287_97 rfl rfl ?_
      refine zn_cgt hB zd287_98 rfl (fun h98 => ?_) (fun h98 => ?_)
      · refine zn_con hB zd287_114 rfl ?_
        refine zn_ist hB zd287_115 rfl rfl rfl ?_
        exact (rows 48001).1 _ _ _ _ (by omega) (by omega) (by omega) (fun k c k1 k2 => by omega)
      · exfalso; omega
    | succ m ih =>
      intro c x4 x5 mb c1 c2
      refine zn_ild hB zd287_96 rfl rfl ?_
      refine zn_ild hB zd287_97 rfl rfl ?_
      refine zn_cgt hB zd287_98 rfl (fun h98 => ?_) (fun h98 => ?_)
      · refine zn_con hB zd287_114 rfl ?_
        refine zn_ist hB zd287_115 rfl rfl rfl ?_
        exact (rows 48001).1 _ _ _ _ (by omega) (by omega) (by omega) (fun k c k1 k2 => by omega)
      · refine zn_ald hB zd287_101 rfl rfl rfl ?_
        refine zn_getr hB zd287_102 rfl ?_
        refine zn_ild hB zd287_105 rfl rfl ?_
        refine zn_con hB zd287_106 rfl ?_
        refine zn_iast hB zd287_107 rfl rfl (by omega) (by omega) ?_
        refine zn_iinc hB zd287_108 rfl rfl (by omega) (by omega) ?_
        refine zn_goto hB zd287_111 rfl ?_
        exact ih _ _ _ _ (by omega) (by omega)
  refine zn_con hB zd287_94 rfl ?_
  refine zn_ist hB zd287_95 rfl rfl rfl ?_
  exact fill (most.toNat + 2) 0 _ _ _ (by omega) (by omega)
end ZSOLD
