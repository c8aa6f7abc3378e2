/-! The loop's induction, and the start. -/
def zl_fin (mc ms : Nat) (st : zS) : Bool := (match z_S st with
  | [r] => (match z_get (z_V st) r with
    | some (.inl a) => z_ile 1 a.1 && z_ile a.2 1
    | _ => false)
  | _ => false) && Nat.ble (z_C st).1 mc && Nat.ble (z_C st).2 ms
def zm_hB (hd : zS) : zS := (z_L hd, z_S hd, 11, [(5, .inl z_full), (6, .inl z_full), (7, .inl z_full), (8, .inl z_full), (9, .inl z_full), (10, .inl z_full)] ++ z_V hd, z_F hd, z_E hd, z_R hd, z_X hd, z_C hd, z_ph hd)
def zm_stp (TY : List zTy) (PHI : List (List Nat)) (cl : List vw_C) (FT : Nat → Nat → FieldType) (MT : List zM) (SG : List (Nat × zSig)) (PHS : List Nat) (R : Room) (nL mc ms : Nat) (cc : ByteArray) (K : zK) (hk : zHk) : Nat → zS → Option (List (Nat × zS)) := z_hst hk (z_stp TY PHI cl FT MT SG [] PHS R false nL K cc (fun _ => false) (zl_fin mc ms))
def zm_hs (hd : zS) (hpc : Nat) : zHk := fun pc st => cond (Nat.beq pc hpc && zm_fit hd zm_iv0 st) (some []) none
def zm_chk0 (TY : List zTy) (PHI : List (List Nat)) (cl : List vw_C) (FT : Nat → Nat → FieldType) (MT : List zM) (SG : List (Nat × zSig)) (PHS : List Nat) (R : Room) (nL mc ms : Nat) (cc : ByteArray) (ce : zCe) (hd : zS) (hpc : Nat) : Bool := z_run (zm_stp TY PHI cl FT MT SG PHS R nL mc ms cc ce.1 (zm_hk cc hd hpc zm_iv6)) (z_cut ce.2.1 11 none) ce.2.2 hpc (zm_hB hd)
def zm_chkP (TY : List zTy) (PHI : List (List Nat)) (cl : List vw_C) (FT : Nat → Nat → FieldType) (MT : List zM) (SG : List (Nat × zSig)) (PHS : List Nat) (R : Room) (nL mc ms : Nat) (cc : ByteArray) (ce : zCe) (hd : zS) (hpc : Nat) (P : List zCu) : Bool := P.all (fun k => k.2.2.2.2.all (fun q => Nat.blt q.1 (z_n k.2.1)) && z_run (zm_stp TY PHI cl FT MT SG PHS R nL mc ms cc ce.1 (zm_hk cc hd hpc zm_iv6)) (z_cut ce.2.1 11 (some k.2.2.2)) ce.2.2 k.1 k.2.1)
def zm_st0 (N : Int) : zS := ([(0, 0)], [], 2, [(0, .inr (.inr 1)), (1, .inl (0, N))], [], [], [], [], (0, 0), 0)
def zm_chkS (TY : List zTy) (PHI : List (List Nat)) (cl : List vw_C) (FT : Nat → Nat → FieldType) (MT : List zM) (SG : List (Nat × zSig)) (PHS : List Nat) (R : Room) (nL mc ms : Nat) (cc : ByteArray) (ce : zCe) (hd : zS) (hpc : Nat) (N : Int) : Bool := z_run (zm_stp TY PHI cl FT MT SG PHS R nL mc ms cc ce.1 (zm_hs hd hpc)) (z_cut [] 2 none) ce.2.2 0 (zm_st0 N)
section ZLOOP2
variable {p : Program} {l : Launch} {e : Env} {R : Room} {s : State} {m : MethodId} {args : Array Value} {below : List Frame} {meth : Method} {c : Code} {Q : State → Prop} {cc : ByteArray} {pc : Nat}
variable {OB : Nat → Nat} {D : va_G} {DA : Nat → ClassId} {cl : List vw_C} {FT : Nat → Nat → FieldType} {TY : List zTy} {PHI : List (List Nat)} {sz : Nat} {T0 : zTp} {env0 : List Value} {nL : Nat} {st : zS} {KXf : (Nat → Nat) → Nat → State → Heap → Prop} {good : Nat → zS → Prop}
variable {TBL : List Cond} {own : String} {MT : List zM} {SG : List (Nat × zSig)} {PHS : List Nat} {ce : zCe} {mc ms : Nat} {b L N : Nat} {xs : Nat → Int32} {hd : zS} {hpc : Nat}
theorem zm_chkP_app {A B : List zCu} (h1 : zm_chkP TY PHI cl FT MT SG PHS R nL mc ms cc ce hd hpc A = true) (h2 : zm_chkP TY PHI cl FT MT SG PHS R nL mc ms cc ce hd hpc B = true) : zm_chkP TY PHI cl FT MT SG PHS R nL mc ms cc ce hd hpc (A ++ B) = true := by
  show (A ++ B).all _ = true
  rw [List.all_append, Bool.and_eq_true]
  exact ⟨h1, h2⟩
theorem zl_fin_ok (hg : z_Good p l e R s m args below meth c Q OB D DA cl TY PHI sz none false T0 s.heap env0 nL good) (hsz : sz = s.heap.size) (hend : ∀ pc H ls, decode cc pc = .ok (.ireturn, 1) → W p l e R s m args below meth c H [] mc ms Q (F0 m pc ls [.int 1])) (hd : decode cc pc = .ok (.ireturn, 1)) (h : zl_fin mc ms st = true) : good pc st := by
  refine (hg _ _).mpr fun T H locs env ls stk hs => ?_
  unfold zl_fin at h
  simp only [Bool.and_eq_true] at h
  obtain ⟨⟨h1, h2⟩, h3⟩ := h
  split at h1
  · rename_i r hS
    split at h1
    · rename_i a ha
      rw [Bool.and_eq_true] at h1
      have a1 := z_ile_ok h1.1
      have a2 := z_ile_ok h1.2
      obtain ⟨v, k, rfl, e1, hk⟩ := z_stk_cons hS hs.2.2.2.1
      have hk : k = [] := hk
      subst hk
      obtain ⟨v2, e2, x, rfl, hx⟩ := z_get_ok hs.2.2.2.2.1 ha
      rw [e1] at e2
      cases e2
      have hx1 : x = 1 := Int32.toInt.inj (by have := hx.1; have := hx.2; have e0 : (1 : Int32).toInt = 1 := rfl; omega)
      subst hx1
      have hmem := hs.2.2.2.2.2.2.2.2.2
      have := W.forget (locs := []) (L := locs) (fun q hq => by have := hmem.2.2.2.2.2.2 q hq; omega) (hend pc H ls hd)
      exact W.widen (Nat.le_of_ble_eq_true h2) (Nat.le_of_ble_eq_true h3) this
    · cases h1
  · cases h1
theorem zm_iv6_ok {i : Nat} (hi : i < 2147483000) (hs : ∀ T H locs env ls stk, z_sat OB D DA cl TY PHI sz none false T0 s.heap env0 nL st T H locs env ls stk → env[2]? = some (.int (Int32.ofNat i))) : ∀ T H locs env ls stk d, z_sat OB D DA cl TY PHI sz none false T0 s.heap env0 nL st T H locs env ls stk → zm_iv6 st d = true → env[d]? = some (.int (Int32.ofNat (i + 6))) := by
  intro T H locs env ls stk d h hv
  unfold zm_iv6 at hv
  rw [Bool.and_eq_true] at hv
  obtain ⟨h1, h2⟩ := hv
  obtain ⟨x, hx⟩ := z_isi_ok h1 h
  split at h2
  · rename_i k hk
    rw [Bool.and_eq_true] at h2
    have k1 := z_ile_ok h2.1
    have k2 := z_ile_ok h2.2
    have := zm_ex_ok h.2.2.2.2.2.2.2.1 hk hx (hs T H locs env ls stk h)
    have e1 : (Int32.ofNat i).toInt = (i : Int) := Int32.toInt_ofNat_of_lt (by omega)
    have e2 : (Int32.ofNat (i + 6)).toInt = ((i + 6 : Nat) : Int) := Int32.toInt_ofNat_of_lt (by omega)
    rw [hx]
    have : x = Int32.ofNat (i + 6) := Int32.toInt_inj.mp (by rw [e2]; omega)
    rw [this]
  · cases h2
/-- one call after the other -/
theorem zm_loop (hx : p.tables.exec = Jvm.exec) (hb : c.code = cc) (hml : c.maxLocals = nL) (hX : va_X b L xs s s.heap) (hbl : b < s.heap.size) (hN : N ≤ 100000) (hL : L ≤ N) (hOB : OB 0 = b) (hD : z_Dy s m args TBL own D cl DA (z_tys DA)) (hXp : z_KXp s.heap.size (KXf OB s.heap.size)) (hKX : KXf OB s.heap.size s s.heap) (hKS : z_KS TBL TBL cl FT own MT ce.1) (hin : k_IN ce.1 = none) (hPH : ∀ a ∈ PHS, z_phok TY PHI a = true)
    (hok : ∀ g ∈ (k_CA ce.1).filterMap (fun a => SG[a.2]?), ∀ m2, MT[g.1]? = some m2 → z_OK TBL cl FT TY PHI KXf m2.1 m2.2.1 m2.2.2.1 m2.2.2.2.1 g.2) (hend : ∀ pc H ls, decode cc pc = .ok (.ireturn, 1) → W p l e R s m args below meth c H [] mc ms Q (F0 m pc ls [.int 1]))
    (hn : z_n hd = 5) (hV : (2, Sum.inl ((0 : Int), (N : Int))) ∈ z_V hd) (h0 : zm_chk0 TY PHI cl FT MT SG PHS R nL mc ms cc ce hd hpc = true) (hP : zm_chkP TY PHI cl FT MT SG PHS R nL mc ms cc ce hd hpc ce.2.1 = true) :
    ∀ k i, i < 2147482000 → N + 1 - i ≤ k → ∀ T H locs env ls stk, env[0]? = some (.ref b) → env[1]? = some (.int (Int32.ofNat L)) → env[2]? = some (.int (Int32.ofNat i)) → z_sat OB D DA cl TY PHI s.heap.size none false (fun _ => none) s.heap env nL hd T H locs env ls stk → W p l e R s m args below meth c H locs (z_C hd).1 (z_C hd).2 Q (F0 m hpc ls stk) := by
  intro k
  induction k with
  | zero =>
    intro i hi hk T H locs env ls stk e0 e1 e2 hs
    obtain ⟨v, g1, x, rfl, g2⟩ := hs.2.2.2.2.1 _ hV
    have g1 : env[2]? = some (.int x) := g1
    rw [e2] at g1
    cases g1
    have ei : (Int32.ofNat i).toInt = (i : Int) := Int32.toInt_ofNat_of_lt (by omega)
    have := g2.2
    rw [ei] at this
    have : (i : Int) ≤ (N : Int) := this
    omega
  | succ k ih =>
    intro i hi hk T H locs env ls stk e0 e1 e2 hs
    obtain ⟨v, g1, x, rfl, g2⟩ := hs.2.2.2.2.1 _ hV
    have g1 : env[2]? = some (.int x) := g1
    rw [e2] at g1
    cases g1
    have ei : (Int32.ofNat i).toInt = (i : Int) := Int32.toInt_ofNat_of_lt (by omega)
    have hiN : (i : Int) ≤ (N : Int) := by have := g2.2; rw [ei] at this; exact this
    have hlen : env.length = 5 := hs.1.trans hn
    have gv : ∀ j, j < 6 → (env ++ [Value.int (xs i), .int (xs (i + 1)), .int (xs (i + 2)), .int (xs (i + 3)), .int (xs (i + 4)), .int (xs (i + 5))])[5 + j]? = some (.int (xs (i + j))) := by
      intro j hj
      rw [List.getElem?_append_right (by omega), hlen, Nat.add_sub_cancel_left]
      match j, hj with
      | 0, _ => rfl
      | 1, _ => rfl
      | 2, _ => rfl
      | 3, _ => rfl
      | 4, _ => rfl
      | 5, _ => rfl
    have full : ∀ x : Int32, z_v OB T (.inl z_full) (.int x) := fun x => ⟨x, rfl, z_in_full x⟩
    have hs2 : z_sat OB D DA cl TY PHI s.heap.size none false (fun _ => none) s.heap (env ++ [Value.int (xs i), .int (xs (i + 1)), .int (xs (i + 2)), .int (xs (i + 3)), .int (xs (i + 4)), .int (xs (i + 5))]) nL (zm_hB hd) T H locs (env ++ [Value.int (xs i), .int (xs (i + 1)), .int (xs (i + 2)), .int (xs (i + 3)), .int (xs (i + 4)), .int (xs (i + 5))]) ls stk := by
      refine ⟨by rw [List.length_append, hlen]; rfl, ⟨[], by rw [List.append_nil]⟩, z_ls_app hs.2.2.1, z_stk_app hs.2.2.2.1, fun q hq => ?_, z_ff_app hs.2.2.2.2.2.1, z_fe_app hs.2.2.2.2.2.2.1, z_fr_app hs.2.2.2.2.2.2.2.1, z_fx_app hs.2.2.2.2.2.2.2.2.1, hs.2.2.2.2.2.2.2.2.2⟩
      rcases List.mem_append.mp hq with hq | hq
      · rcases List.mem_cons.mp hq with rfl | hq
        · exact ⟨_, gv 0 (by omega), full _⟩
        rcases List.mem_cons.mp hq with rfl | hq
        · exact ⟨_, gv 1 (by omega), full _⟩
        rcases List.mem_cons.mp hq with rfl | hq
        · exact ⟨_, gv 2 (by omega), full _⟩
        rcases List.mem_cons.mp hq with rfl | hq
        · exact ⟨_, gv 3 (by omega), full _⟩
        rcases List.mem_cons.mp hq with rfl | hq
        · exact ⟨_, gv 4 (by omega), full _⟩
        rcases List.mem_cons.mp hq with rfl | hq
        · exact ⟨_, gv 5 (by omega), full _⟩
        cases hq
      · exact z_fv_app hs.2.2.2.2.1 q hq
    have hat : zm_at b L i xs (env ++ [Value.int (xs i), .int (xs (i + 1)), .int (xs (i + 2)), .int (xs (i + 3)), .int (xs (i + 4)), .int (xs (i + 5))]) := ⟨z_app e0, z_app e1, z_app e2, gv⟩
    refine z_runs (ng := 11) (ends := zm_at b L i xs) (fun env1 env2 he hgh => ?_) (fun env1 pc st Ls he hL2 hall => ?_) hP h0 hat (by rw [List.length_append, hlen]; exact Nat.le_refl _) hs2
    · exact ⟨(hgh 0 (by omega)).trans he.1, (hgh 1 (by omega)).trans he.2.1, (hgh 2 (by omega)).trans he.2.2.1, fun j hj => (hgh (5 + j) (by omega)).trans (he.2.2.2 j hj)⟩
    · have hgg : z_Good p l e R s m args below meth c Q OB D DA cl TY PHI s.heap.size none false (fun _ => none) s.heap env1 nL (fun pc st => ∀ T2 H2 locs2 env2 ls2 stk2, z_sat OB D DA cl TY PHI s.heap.size none false (fun _ => none) s.heap env1 nL st T2 H2 locs2 env2 ls2 stk2 → W p l e R s m args below meth c H2 locs2 (z_C st).1 (z_C st).2 Q (F0 m pc ls2 stk2)) := fun _ _ => Iff.rfl
      unfold zm_stp z_hst at hL2
      split at hL2
      · rename_i L3 hL3
        cases hL2
        unfold zm_hk at hL3
        cases hc : (Nat.beq pc hpc && zm_fit hd zm_iv6 st) with
        | true =>
          rw [Bool.and_eq_true] at hc
          have hpc2 := z_beq hc.1
          subst hpc2
          exact zm_fit_ok (i' := i + 6) hn hgg he.1 he.2.1 (zm_iv6_ok (by omega) (fun T H locs env ls stk h => by obtain ⟨w, hw⟩ := h.2.1; rw [hw]; exact z_app he.2.2.1)) (ih (i + 6) (by omega) (by omega)) hc.2
        | false =>
          rw [hc] at hL3
          exact zm_rd_ok hgg hx hb hX hbl rfl (by omega) (by omega) hOB he hL3 hall
      · exact z_stp_ok hgg hx hb hml hD (Nat.le_refl _) hXp hKX hKS (fun j hj => by rw [hin] at hj; cases hj) hPH hok (fun pc st hd hf => by cases hf) (fun pc st hd hf => zl_fin_ok hgg rfl hend hd hf) hL2 hall
end ZLOOP2
