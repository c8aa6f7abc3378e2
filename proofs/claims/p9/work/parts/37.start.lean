/-! The law from its entry: the objects are made, then the loop. -/
section ZSTART
variable {p : Program} {l : Launch} {e : Env} {R : Room} {s : State} {m : MethodId} {args : Array Value} {below : List Frame} {meth : Method} {c : Code} {Q : State → Prop} {cc : ByteArray}
variable {OB : Nat → Nat} {D : va_G} {DA : Nat → ClassId} {cl : List vw_C} {FT : Nat → Nat → FieldType} {TY : List zTy} {PHI : List (List Nat)} {nL : Nat} {KXf : (Nat → Nat) → Nat → State → Heap → Prop}
variable {TBL : List Cond} {own : String} {MT : List zM} {SG : List (Nat × zSig)} {PHS : List Nat} {ce : zCe} {mc ms : Nat} {b L N : Nat} {xs : Nat → Int32} {hd : zS} {hpc : Nat}
theorem zm_law (hx : p.tables.exec = Jvm.exec) (hb : c.code = cc) (hml : c.maxLocals = nL) (hX : va_X b L xs s s.heap) (hbl : b < s.heap.size) (hN : N ≤ 100000) (hL : L ≤ N) (hOB : OB 0 = b) (hD : z_Dy s m args TBL own D cl DA (z_tys DA)) (hXp : z_KXp s.heap.size (KXf OB s.heap.size)) (hKX : KXf OB s.heap.size s s.heap) (hKS : z_KS TBL TBL cl FT own MT ce.1) (hin : k_IN ce.1 = none) (hPH : ∀ a ∈ PHS, z_phok TY PHI a = true)
    (hok : ∀ g ∈ (k_CA ce.1).filterMap (fun a => SG[a.2]?), ∀ m2, MT[g.1]? = some m2 → z_OK TBL cl FT TY PHI KXf m2.1 m2.2.1 m2.2.2.1 m2.2.2.2.1 g.2) (hend : ∀ pc H ls, decode cc pc = .ok (.ireturn, 1) → W p l e R s m args below meth c H [] mc ms Q (F0 m pc ls [.int 1]))
    (hn : z_n hd = 5) (hV : (2, Sum.inl ((0 : Int), (N : Int))) ∈ z_V hd) (hS : zm_chkS TY PHI cl FT MT SG PHS R nL mc ms cc ce hd hpc (N : Int) = true) (h0 : zm_chk0 TY PHI cl FT MT SG PHS R nL mc ms cc ce hd hpc = true) (hP : zm_chkP TY PHI cl FT MT SG PHS R nL mc ms cc ce hd hpc ce.2.1 = true)
    {ls : Array Slot} (hls : z_ls nL ls [.ref b, .int (Int32.ofNat L)] [(0, 0)]) : W p l e R s m args below meth c s.heap [] 0 0 Q (F0 m 0 ls []) := by
  have hLi : (Int32.ofNat L).toInt = (L : Int) := Int32.toInt_ofNat_of_lt (by omega)
  have hsat : z_sat OB D DA cl TY PHI s.heap.size none false (fun _ => none) s.heap [.ref b, .int (Int32.ofNat L)] nL (zm_st0 (N : Int)) (fun _ => none) s.heap [] [.ref b, .int (Int32.ofNat L)] ls [] := by
    refine ⟨rfl, ⟨[], by rw [List.append_nil]⟩, hls, rfl, fun q hq => ?_, fun q hq => absurd hq List.not_mem_nil, fun q hq => absurd hq List.not_mem_nil, fun q hq => absurd hq List.not_mem_nil, trivial, ⟨fun a t ht => absurd ht (by simp), fun a t ci fl ha => absurd ha (by simp), fun a a' t t' ci fl fl' ha => absurd ha (by simp)⟩, ⟨fun a t ht => absurd ht (by simp), fun h => absurd h (by simp), z_fin_rf⟩, fun a t ht => absurd ht (by simp), fun q _ _ _ => ⟨rfl, rfl⟩, va_S.rf⟩
    rcases List.mem_cons.mp hq with rfl | hq
    · exact ⟨_, rfl, by show _ = Value.ref (OB 0); rw [hOB]⟩
    rcases List.mem_cons.mp hq with rfl | hq
    · exact ⟨_, rfl, _, rfl, by rw [z_in, hLi]; exact ⟨by show (0 : Int) ≤ _; omega, by show _ ≤ (N : Int); omega⟩⟩
    cases hq
  refine z_runs (CU := []) (ng := 2) (ends := fun env : List Value => env[0]? = some (Value.ref b) ∧ env[1]? = some (Value.int (Int32.ofNat L))) (fun env1 env2 he hgh => ⟨(hgh 0 (by omega)).trans he.1, (hgh 1 (by omega)).trans he.2⟩) (fun env1 pc st Ls he hL2 hall => ?_) (stp := zm_stp TY PHI cl FT MT SG PHS R nL mc ms cc ce.1 (zm_hs hd hpc)) (fuel := ce.2.2) rfl hS ⟨rfl, rfl⟩ (Nat.le_refl _) hsat
  have hgg : z_Good p l e R s m args below meth c Q OB D DA cl TY PHI s.heap.size none false (fun _ => none) s.heap env1 nL (fun pc st => ∀ T2 H2 locs2 env2 ls2 stk2, z_sat OB D DA cl TY PHI s.heap.size none false (fun _ => none) s.heap env1 nL st T2 H2 locs2 env2 ls2 stk2 → W p l e R s m args below meth c H2 locs2 (z_C st).1 (z_C st).2 Q (F0 m pc ls2 stk2)) := fun _ _ => Iff.rfl
  unfold zm_stp z_hst at hL2
  split at hL2
  · rename_i L3 hL3
    cases hL2
    unfold zm_hs at hL3
    obtain ⟨hc, -⟩ := z_cond hL3
    rw [Bool.and_eq_true] at hc
    have hpc2 := z_beq hc.1
    subst hpc2
    refine zm_fit_ok (i' := 0) hn hgg he.1 he.2 (fun T H locs env ls stk d h hv => ?_) (zm_loop hx hb hml hX hbl hN hL hOB hD hXp hKX hKS hin hPH hok hend hn hV h0 hP (N + 1) 0 (by omega) (by omega)) hc.2
    unfold zm_iv0 at hv
    split at hv
    · rename_i r hr
      rw [Bool.and_eq_true] at hv
      obtain ⟨v, g1, x, rfl, g2⟩ := z_get_ok h.2.2.2.2.1 hr
      have a1 := z_ile_ok hv.1
      have a2 := z_ile_ok hv.2
      have b1 := g2.1
      have b2 := g2.2
      have : x = 0 := z_int0 (by omega)
      rw [g1, this]
      rfl
    · cases hv
  · exact z_stp_ok hgg hx hb hml hD (Nat.le_refl _) hXp hKX hKS (fun j hj => by rw [hin] at hj; cases hj) hPH hok (fun pc st hd hf => by cases hf) (fun pc st hd hf => zl_fin_ok hgg rfl hend hd hf) hL2 hall
end ZSTART
