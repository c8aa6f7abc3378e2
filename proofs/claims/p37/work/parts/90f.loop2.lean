/-! One call after the other; the law from its entry. -/
section ZULOOP3
variable {p : Program} {l : Launch} {e : Env} {R : Room} {s : State} {m : MethodId} {args : Array Value} {below : List Frame} {meth : Method} {c : Code} {Q : State → Prop} {cc : ByteArray} {pc : Nat}
variable {D : va_G} {DA : Nat → ClassId} {cl : List vw_C} {FT : Nat → Nat → FieldType} {TY : List zTy} {PHI : List (List Nat)} {nL : Nat} {KXf : (Nat → Nat) → Nat → State → Heap → Prop}
variable {TBL : List Cond} {own : String} {MT : List zM} {SG : List (Nat × zSig)} {PHS : List Nat} {ce : zCe} {mc ms : Nat} {b L N : Nat} {xs : Nat → Int32} {hd hdF : zS} {HC : List zuH} {HD : List zS} {hpc : Nat}
variable {CO : (Nat → Nat) → Prop} {PRO : (Nat → Nat) → Nat → Prop}
theorem zu_loop (hx : p.tables.exec = Jvm.exec) (hb : c.code = cc) (hml : c.maxLocals = nL) (hX : va_X b L xs s s.heap) (hbl : b < s.heap.size) (hN : N ≤ 100000) (hL : L ≤ N) (hD : z_Dy s m args TBL own D cl DA (z_tys DA)) (hCO : ∀ OB, CO OB → OB 0 = b ∧ z_KXp s.heap.size (KXf OB s.heap.size) ∧ KXf OB s.heap.size s s.heap) (hKS : z_KS TBL TBL cl FT own MT ce.1) (hin : k_IN ce.1 = none) (hPH : ∀ a ∈ PHS, z_phok TY PHI a = true)
    (hok : ∀ g ∈ (k_CA ce.1).filterMap (fun a => SG[a.2]?), ∀ m2, MT[g.1]? = some m2 → z_OK TBL cl FT TY PHI KXf m2.1 m2.2.1 m2.2.2.1 m2.2.2.2.1 g.2) (hend : ∀ pc H ls, decode cc pc = .ok (.ireturn, 1) → W p l e R s m args below meth c H [] mc ms Q (F0 m pc ls [.int 1]))
    (hPre : ∀ OB i, i < 2147482000 → CO OB → ∀ T H locs env ls stk, z_sat OB D DA cl TY PHI s.heap.size none false (fun _ => none) s.heap env nL hd T H locs env ls stk → ∃ OB2, CO OB2 ∧ PRO OB2 i ∧ z_sat OB2 D DA cl TY PHI s.heap.size none false (fun _ => none) s.heap env nL hd T H locs env ls stk)
    (hPost : ∀ OB, CO OB → ∀ hd2 ∈ HD, ∀ T H locs env ls stk, z_sat OB D DA cl TY PHI s.heap.size none false (fun _ => none) s.heap env nL hd2 T H locs env ls stk → ∃ OB2 T2, CO OB2 ∧ z_sat OB2 D DA cl TY PHI s.heap.size none false (fun _ => none) s.heap env nL hd T2 H locs env ls stk)
    (hHC : ∀ OB i, CO OB → PRO OB i → ∀ h ∈ HC, zu_hand l OB D DA cl FT TY PHI s.heap.size KXf TBL own cc xs i h)
    (hn : z_n hd = 5) (hn2 : ∀ hd2 ∈ HD, z_n hd2 = 5 ∧ z_C hd2 = z_C hd) (hV : (2, Sum.inl ((0 : Int), (N : Int))) ∈ z_V hd) (h0 : zu_c0 cc TY PHI cl FT MT SG PHS R nL mc ms ce HC hd HD hpc = true) (hP : zu_cP cc TY PHI cl FT MT SG PHS R nL mc ms ce HC HD hpc ce.2.1 = true) :
    ∀ k i, i < 2147482000 → N + 1 - i ≤ k → ∀ OB, CO OB → ∀ T H locs env ls stk, env[0]? = some (.ref b) → env[1]? = some (.int (Int32.ofNat L)) → env[2]? = some (.int (Int32.ofNat i)) → z_sat OB D DA cl TY PHI s.heap.size none false (fun _ => none) s.heap env nL hd T H locs env ls stk → W p l e R s m args below meth c H locs (z_C hd).1 (z_C hd).2 Q (F0 m hpc ls stk) := by
  intro k
  induction k with
  | zero =>
    intro i hi hk OB hco T H locs env ls stk e0 e1 e2 hs
    obtain ⟨v, g1, x, rfl, g2⟩ := hs.2.2.2.2.1 _ hV
    have g1 : env[2]? = some (.int x) := g1
    rw [e2] at g1
    cases g1
    have ei : (Int32.ofNat i).toInt = (i : Int) := Int32.toInt_ofNat_of_lt (by omega)
    have := g2.2
    rw [ei] at this
    have : (i : Int) ≤ (N : Int) := this
    omega
  | succ k ih =>
    intro i hi hk OB1 hco1 T H locs env ls stk e0 e1 e2 hs1
    obtain ⟨OB, hco, hpr, hs⟩ := hPre OB1 i hi hco1 T H locs env ls stk hs1
    obtain ⟨hOB, hXp, hKX⟩ := hCO OB hco
    obtain ⟨v, g1, x, rfl, g2⟩ := hs.2.2.2.2.1 _ hV
    have g1 : env[2]? = some (.int x) := g1
    rw [e2] at g1
    cases g1
    have ei : (Int32.ofNat i).toInt = (i : Int) := Int32.toInt_ofNat_of_lt (by omega)
    have hiN : (i : Int) ≤ (N : Int) := by have := g2.2; rw [ei] at this; exact this
    have hlen : env.length = 5 := hs.1.trans hn
    have gw : ∀ j, j < 7 → (env ++ [Value.int (xs i), .int (xs (i + 1)), .int (xs (i + 2)), .int (xs (i + 3)), .int (xs (i + 4)), .int (xs (i + 5)), .int (Int32.ofNat (OB 40))])[5 + j]? = [Value.int (xs i), .int (xs (i + 1)), .int (xs (i + 2)), .int (xs (i + 3)), .int (xs (i + 4)), .int (xs (i + 5)), .int (Int32.ofNat (OB 40))][j]? := by
      intro j hj
      rw [List.getElem?_append_right (by omega), hlen, Nat.add_sub_cancel_left]
    have gv : ∀ j, j < 6 → (env ++ [Value.int (xs i), .int (xs (i + 1)), .int (xs (i + 2)), .int (xs (i + 3)), .int (xs (i + 4)), .int (xs (i + 5)), .int (Int32.ofNat (OB 40))])[5 + j]? = some (.int (xs (i + j))) := by
      intro j hj
      rw [gw j (by omega)]
      match j, hj with
      | 0, _ => rfl
      | 1, _ => rfl
      | 2, _ => rfl
      | 3, _ => rfl
      | 4, _ => rfl
      | 5, _ => rfl
    have gA : (env ++ [Value.int (xs i), .int (xs (i + 1)), .int (xs (i + 2)), .int (xs (i + 3)), .int (xs (i + 4)), .int (xs (i + 5)), .int (Int32.ofNat (OB 40))])[11]? = some (.int (Int32.ofNat (OB 40))) := (gw 6 (by omega)).trans rfl
    have full : ∀ x : Int32, z_v OB T (.inl z_full) (.int x) := fun x => ⟨x, rfl, z_in_full x⟩
    have hs2 : z_sat OB D DA cl TY PHI s.heap.size none false (fun _ => none) s.heap (env ++ [Value.int (xs i), .int (xs (i + 1)), .int (xs (i + 2)), .int (xs (i + 3)), .int (xs (i + 4)), .int (xs (i + 5)), .int (Int32.ofNat (OB 40))]) nL (zu_hB hd) T H locs (env ++ [Value.int (xs i), .int (xs (i + 1)), .int (xs (i + 2)), .int (xs (i + 3)), .int (xs (i + 4)), .int (xs (i + 5)), .int (Int32.ofNat (OB 40))]) ls stk := by
      refine ⟨by rw [List.length_append, hlen]; rfl, ⟨[], by rw [List.append_nil]⟩, z_ls_app hs.2.2.1, z_stk_app hs.2.2.2.1, fun q hq => ?_, z_ff_app hs.2.2.2.2.2.1, z_fe_app hs.2.2.2.2.2.2.1, z_fr_app hs.2.2.2.2.2.2.2.1, z_fx_app hs.2.2.2.2.2.2.2.2.1, hs.2.2.2.2.2.2.2.2.2⟩
      rcases List.mem_append.mp hq with hq | hq
      · rcases List.mem_cons.mp hq with rfl | hq
        · exact ⟨_, gv 0 (by omega), full _⟩
        rcases List.mem_cons.mp hq with rfl | hq
        · exact ⟨_, gv 1 (by omega), full _⟩
        rcases List.mem_cons.mp hq with rfl | hq
        · exact ⟨_, gv 2 (by omega), full _⟩
        rcases List.mem_cons.mp hq with rfl | hq
        · exact ⟨_, gv 3 (by omega), full _⟩
        rcases List.mem_cons.mp hq with rfl | hq
        · exact ⟨_, gv 4 (by omega), full _⟩
        rcases List.mem_cons.mp hq with rfl | hq
        · exact ⟨_, gv 5 (by omega), full _⟩
        rcases List.mem_cons.mp hq with rfl | hq
        · exact ⟨_, gA, full _⟩
        cases hq
      · exact z_fv_app hs.2.2.2.2.1 q hq
    have hat : zu_at OB b L i xs (env ++ [Value.int (xs i), .int (xs (i + 1)), .int (xs (i + 2)), .int (xs (i + 3)), .int (xs (i + 4)), .int (xs (i + 5)), .int (Int32.ofNat (OB 40))]) := ⟨⟨z_app e0, z_app e1, z_app e2, gv⟩, gA⟩
    refine z_runs (ng := 12) (ends := zu_at OB b L i xs) (fun env1 env2 he hgh => ?_) (fun env1 pc st Ls he hL2 hall => ?_) hP h0 hat (by rw [List.length_append, hlen]; exact Nat.le_refl _) hs2
    · exact ⟨⟨(hgh 0 (by omega)).trans he.1.1, (hgh 1 (by omega)).trans he.1.2.1, (hgh 2 (by omega)).trans he.1.2.2.1, fun j hj => (hgh (5 + j) (by omega)).trans (he.1.2.2.2 j hj)⟩, (hgh 11 (by omega)).trans he.2⟩
    · have hgg : z_Good p l e R s m args below meth c Q OB D DA cl TY PHI s.heap.size none false (fun _ => none) s.heap env1 nL (fun pc st => ∀ T2 H2 locs2 env2 ls2 stk2, z_sat OB D DA cl TY PHI s.heap.size none false (fun _ => none) s.heap env1 nL st T2 H2 locs2 env2 ls2 stk2 → W p l e R s m args below meth c H2 locs2 (z_C st).1 (z_C st).2 Q (F0 m pc ls2 stk2)) := fun _ _ => Iff.rfl
      unfold zu_stp0 z_hst at hL2
      split at hL2
      · rename_i L3 hL3
        cases hL2
        unfold zu_hk at hL3
        cases hc : (Nat.beq pc hpc && HD.any (fun hd => zm_fit hd zm_iv6 (zu_p0 st))) with
        | true =>
          rw [Bool.and_eq_true] at hc
          have hpc2 := z_beq hc.1
          subst hpc2
          obtain ⟨hd2, g1, g2⟩ := List.any_eq_true.mp hc.2
          have key := zm_fit_ok (i' := i + 6) (hn2 hd2 g1).1 hgg he.1.1 he.1.2.1 (zm_iv6_ok (by omega) (fun T H locs env ls stk h => by obtain ⟨w, hw⟩ := h.2.1; rw [hw]; exact z_app he.1.2.2.1)) (fun T H locs env ls stk f0 f1 f2 h => by
            obtain ⟨OB2, T2, c2, h2⟩ := hPost OB hco hd2 g1 T H locs env ls stk h
            rw [(hn2 hd2 g1).2]
            exact ih (i + 6) (by omega) (by omega) OB2 c2 T2 H locs env ls stk f0 f1 f2 h2) g2
          intro T2 H2 locs2 env2 ls2 stk2 hs3
          exact key T2 H2 locs2 env2 ls2 stk2 (zu_p0_ok hs3)
        | false =>
          rw [hc] at hL3
          have hL3 : (match zu_inv TY PHI cl FT R HC pc st with
            | some L => some L
            | none => zm_rd cc pc st) = some Ls := hL3
          cases ha : zu_inv TY PHI cl FT R HC pc st with
          | some L4 =>
            rw [ha] at hL3
            have hL3 : some L4 = some Ls := hL3
            cases hL3
            obtain ⟨h, q1, q2⟩ := List.exists_of_findSome?_eq_some ha
            obtain ⟨q3, q4⟩ := z_cnd q2
            rw [Bool.and_eq_true] at q3
            have epc : h.1 = pc := z_beq q3.1
            subst epc
            cases hi2 : z_inv TY PHI cl FT R false 0 h.2.1.1 h.2.1.2.1 h.2.1.2.2 h.2.2.1 st with
            | none => rw [hi2] at q4; cases q4
            | some L5 =>
              rw [hi2] at q4
              have q4 : L5.map (fun s => (h.1 + 3, zu_aft h.2.2.2.2 s)) = Ls := (Option.some.inj q4)
              obtain ⟨j, y, bytes, ret, d1, d2, d3, d4, d5⟩ := hHC OB i hco hpr h q1
              refine z_r_invG hgg hx hb hml hD (Nat.le_refl _) hXp hKX (QP := fun v => h.2.2.2.2 = true → v = some (.int (Int32.ofNat (OB 40)))) d5 (fun T2 H2 locs2 env2 ls2 stk2 hs3 va vr ev hva q k hq hk6 => ?_) d2 hKS.2.2.2.2.2.1 d3 d1 hi2 (fun st' hst' T2 H2 locs2 env2 ls2 stk2 hs3 hqv => ?_)
              · have hql : q < (g_prm h.2.2.1).length := by
                  have := (List.getElem?_eq_some_iff.mp hq).1
                  rw [List.length_reverse, d4] at this
                  exact this
                rw [List.getElem?_reverse (by omega)] at hq
                obtain ⟨w, w1, w2⟩ := zu_stk hs3.2.2.2.1 (zu_pre_ok q3.2 hq)
                obtain ⟨w0, hw0⟩ := hs3.2.1
                have w3 : env2[5 + k]? = some (.int (xs (i + k))) := by rw [hw0]; exact z_app (he.1.2.2.2 k hk6)
                rw [w3] at w2
                cases w2
                rw [ev] at w1
                rw [List.getElem?_append_left (by rw [List.length_reverse]; omega), List.getElem?_reverse (by omega)] at w1
                have e9 : va.length - 1 - (h.2.2.2.1.length - 1 - q) = q := by omega
                rw [e9] at w1
                rw [List.getElem?_toArray]
                exact w1
              · have := hall (h.1 + 3, zu_aft h.2.2.2.2 st') (by rw [← q4]; exact List.mem_map.mpr ⟨st', hst', rfl⟩) T2 H2 locs2 env2 ls2 stk2 (zu_aft_ok hs3 he.2 hqv)
                exact this
          | none =>
            rw [ha] at hL3
            exact zm_rd_ok hgg hx hb hX hbl rfl (by omega) (by omega) hOB he.1 hL3 hall
      · exact z_stp_ok hgg hx hb hml hD (Nat.le_refl _) hXp hKX hKS (fun j hj => by rw [hin] at hj; cases hj) hPH hok (fun pc st hd hf => by cases hf) (fun pc st hd hf => zl_fin_ok hgg rfl hend hd hf) hL2 hall
theorem zu_law {OB : Nat → Nat} (hx : p.tables.exec = Jvm.exec) (hb : c.code = cc) (hml : c.maxLocals = nL) (hX : va_X b L xs s s.heap) (hbl : b < s.heap.size) (hN : N ≤ 100000) (hL : L ≤ N) (hD : z_Dy s m args TBL own D cl DA (z_tys DA)) (hCO : ∀ OB, CO OB → OB 0 = b ∧ z_KXp s.heap.size (KXf OB s.heap.size) ∧ KXf OB s.heap.size s s.heap) (hKS : z_KS TBL TBL cl FT own MT ce.1) (hin : k_IN ce.1 = none) (hPH : ∀ a ∈ PHS, z_phok TY PHI a = true)
    (hok : ∀ g ∈ (k_CA ce.1).filterMap (fun a => SG[a.2]?), ∀ m2, MT[g.1]? = some m2 → z_OK TBL cl FT TY PHI KXf m2.1 m2.2.1 m2.2.2.1 m2.2.2.2.1 g.2) (hend : ∀ pc H ls, decode cc pc = .ok (.ireturn, 1) → W p l e R s m args below meth c H [] mc ms Q (F0 m pc ls [.int 1]))
    (hco : CO OB) (hnF : z_n hdF = 5 ∧ z_C hdF = z_C hd)
    (hFst : ∀ T H locs env ls stk, z_sat OB D DA cl TY PHI s.heap.size none false (fun _ => none) s.heap env nL hdF T H locs env ls stk → ∃ OB2 T2, CO OB2 ∧ z_sat OB2 D DA cl TY PHI s.heap.size none false (fun _ => none) s.heap env nL hd T2 H locs env ls stk)
    (hPre : ∀ OB i, i < 2147482000 → CO OB → ∀ T H locs env ls stk, z_sat OB D DA cl TY PHI s.heap.size none false (fun _ => none) s.heap env nL hd T H locs env ls stk → ∃ OB2, CO OB2 ∧ PRO OB2 i ∧ z_sat OB2 D DA cl TY PHI s.heap.size none false (fun _ => none) s.heap env nL hd T H locs env ls stk)
    (hPost : ∀ OB, CO OB → ∀ hd2 ∈ HD, ∀ T H locs env ls stk, z_sat OB D DA cl TY PHI s.heap.size none false (fun _ => none) s.heap env nL hd2 T H locs env ls stk → ∃ OB2 T2, CO OB2 ∧ z_sat OB2 D DA cl TY PHI s.heap.size none false (fun _ => none) s.heap env nL hd T2 H locs env ls stk)
    (hHC : ∀ OB i, CO OB → PRO OB i → ∀ h ∈ HC, zu_hand l OB D DA cl FT TY PHI s.heap.size KXf TBL own cc xs i h)
    (hn : z_n hd = 5) (hn2 : ∀ hd2 ∈ HD, z_n hd2 = 5 ∧ z_C hd2 = z_C hd) (hV : (2, Sum.inl ((0 : Int), (N : Int))) ∈ z_V hd) (hS : zm_chkS TY PHI cl FT MT SG PHS R nL mc ms cc ce hdF hpc (N : Int) = true) (h0 : zu_c0 cc TY PHI cl FT MT SG PHS R nL mc ms ce HC hd HD hpc = true) (hP : zu_cP cc TY PHI cl FT MT SG PHS R nL mc ms ce HC HD hpc ce.2.1 = true)
    {ls : Array Slot} (hls : z_ls nL ls [.ref b, .int (Int32.ofNat L)] [(0, 0)]) : W p l e R s m args below meth c s.heap [] 0 0 Q (F0 m 0 ls []) := by
  obtain ⟨hOB, hXp, hKX⟩ := hCO OB hco
  have hLi : (Int32.ofNat L).toInt = (L : Int) := Int32.toInt_ofNat_of_lt (by omega)
  have hsat : z_sat OB D DA cl TY PHI s.heap.size none false (fun _ => none) s.heap [.ref b, .int (Int32.ofNat L)] nL (zm_st0 (N : Int)) (fun _ => none) s.heap [] [.ref b, .int (Int32.ofNat L)] ls [] := by
    refine ⟨rfl, ⟨[], by rw [List.append_nil]⟩, hls, rfl, fun q hq => ?_, fun q hq => absurd hq List.not_mem_nil, fun q hq => absurd hq List.not_mem_nil, fun q hq => absurd hq List.not_mem_nil, trivial, ⟨fun a t ht => absurd ht (by simp), fun a t ci fl ha => absurd ha (by simp), fun a a' t t' ci fl fl' ha => absurd ha (by simp), fun q hq hT => absurd hT (by simp)⟩, ⟨fun a t ht => absurd ht (by simp), fun h => absurd h (by simp), z_fin_rf⟩, fun a t ht => absurd ht (by simp), fun q _ _ _ => ⟨rfl, rfl⟩, va_S.rf⟩
    rcases List.mem_cons.mp hq with rfl | hq
    · exact ⟨_, rfl, (by show _ = Value.ref (OB 0); rw [hOB]), fun h => absurd h (by decide)⟩
    rcases List.mem_cons.mp hq with rfl | hq
    · exact ⟨_, rfl, _, rfl, by rw [z_in, hLi]; exact ⟨by show (0 : Int) ≤ _; omega, by show _ ≤ (N : Int); omega⟩⟩
    cases hq
  refine z_runs (CU := []) (ng := 2) (ends := fun env : List Value => env[0]? = some (Value.ref b) ∧ env[1]? = some (Value.int (Int32.ofNat L))) (fun env1 env2 he hgh => ⟨(hgh 0 (by omega)).trans he.1, (hgh 1 (by omega)).trans he.2⟩) (fun env1 pc st Ls he hL2 hall => ?_) (stp := zm_stp TY PHI cl FT MT SG PHS R nL mc ms cc ce.1 (zm_hs hdF hpc)) (fuel := ce.2.2) rfl hS ⟨rfl, rfl⟩ (Nat.le_refl _) hsat
  have hgg : z_Good p l e R s m args below meth c Q OB D DA cl TY PHI s.heap.size none false (fun _ => none) s.heap env1 nL (fun pc st => ∀ T2 H2 locs2 env2 ls2 stk2, z_sat OB D DA cl TY PHI s.heap.size none false (fun _ => none) s.heap env1 nL st T2 H2 locs2 env2 ls2 stk2 → W p l e R s m args below meth c H2 locs2 (z_C st).1 (z_C st).2 Q (F0 m pc ls2 stk2)) := fun _ _ => Iff.rfl
  unfold zm_stp z_hst at hL2
  split at hL2
  · rename_i L3 hL3
    cases hL2
    unfold zm_hs at hL3
    obtain ⟨hc, -⟩ := z_cond hL3
    rw [Bool.and_eq_true] at hc
    have hpc2 := z_beq hc.1
    subst hpc2
    refine zm_fit_ok (i' := 0) hnF.1 hgg he.1 he.2 (fun T H locs env ls stk d h hv => ?_) (fun T H locs env ls stk f0 f1 f2 h => ?_) hc.2
    · unfold zm_iv0 at hv
      split at hv
      · rename_i r hr
        rw [Bool.and_eq_true] at hv
        obtain ⟨v, g1, x, rfl, g2⟩ := z_get_ok h.2.2.2.2.1 hr
        have a1 := z_ile_ok hv.1
        have a2 := z_ile_ok hv.2
        have b1 := g2.1
        have b2 := g2.2
        have : x = 0 := z_int0 (by omega)
        rw [g1, this]
        rfl
      · cases hv
    · obtain ⟨OB2, T2, c2, h2⟩ := hFst T H locs env ls stk h
      rw [hnF.2]
      exact zu_loop hx hb hml hX hbl hN hL hD hCO hKS hin hPH hok hend hPre hPost hHC hn hn2 hV h0 hP (N + 1) 0 (by omega) (by omega) OB2 c2 T2 H locs env ls stk f0 f1 f2 h2
  · exact z_stp_ok hgg hx hb hml hD (Nat.le_refl _) hXp hKX hKS (fun j hj => by rw [hin] at hj; cases hj) hPH hok (fun pc st hd hf => by cases hf) (fun pc st hd hf => zl_fin_ok hgg rfl hend hd hf) hL2 hall
end ZULOOP3
