/-! The law from its entry to its head: what is made there. -/
def zy_nw (cl : List vw_C) (d : Nat) (st : zS) (nw : List (zLoc × zV)) : Bool := nw.all fun q => (match cl[q.1.2.1]? with
  | some r => Nat.blt q.1.2.2.1 r.2.2
  | none => false) && (match q.1.2.2.2, z_ffind st d q.1.2.1 q.1.2.2.1, q.2 with
  | some e, some w, .inl r => (z_E st).any (fun t => Nat.beq t.1 w && (match z_get (z_V st) t.2.1, z_get (z_V st) t.2.2 with
    | some (.inl i), some (.inl v) => (z_ile (e : Nat) i.1 && z_ile i.2 (e : Nat)) && (z_ile r.1 v.1 && z_ile v.2 r.2)
    | _, _ => false))
  | _, _, _ => false)
theorem zy_nw_ok {OB : Nat → Nat} {D : va_G} {DA : Nat → ClassId} {cl : List vw_C} {TY : List zTy} {PHI : List (List Nat)} {sz : Nat} {raw : Option Nat} {pu : Bool} {T0 T : zTp} {H0 H : Heap} {env0 env : List Value} {nL : Nat} {st : zS} {locs : List Loc} {ls : Array Slot} {stk : List Value} {d a : Nat} {nw : List (zLoc × zV)} (h : zy_nw cl d st nw = true) (hs : z_sat OB D DA cl TY PHI sz raw pu T0 H0 env0 nL st T H locs env ls stk) (h0 : env[d]? = some (.ref a)) :
    ∀ q ∈ nw, ∃ (x : Int32) (r : zR), z_lv D cl H (some (.ref a)) q.1 (.int x) ∧ q.2 = .inl r ∧ z_in r x := by
  intro q hq
  have h1 := List.all_eq_true.mp h q hq
  rw [Bool.and_eq_true] at h1
  obtain ⟨c3, c4⟩ := h1
  split at c3
  · rename_i r0 hr0
    split at c4
    · rename_i e w r he hw hr
      obtain ⟨t, ht, ht2⟩ := List.any_eq_true.mp c4
      rw [Bool.and_eq_true] at ht2
      obtain ⟨d1, d2⟩ := ht2
      split at d2
      · rename_i i v hi hv
        simp only [Bool.and_eq_true] at d2
        obtain ⟨⟨i1, i2⟩, v1, v2⟩ := d2
        obtain ⟨a2, w2, e1, e2, e3⟩ := z_ffind_ok hw hs
        rw [h0] at e1
        cases e1
        obtain ⟨a3, x, w3, f1, f2, f3, f4, f5⟩ := hs.2.2.2.2.2.2.1 t ht
        rw [z_beq d1, e2] at f1
        cases f1
        obtain ⟨xi, g1, xi2, rfl, g2⟩ := z_get_ok hs.2.2.2.2.1 hi
        rw [f2] at g1
        cases g1
        obtain ⟨xv, k1, xv2, rfl, k2⟩ := z_get_ok hs.2.2.2.2.1 hv
        rw [f4] at k1
        cases k1
        have j1 := z_ile_ok i1
        have j2 := z_ile_ok i2
        have j3 := g2.1
        have j4 := g2.2
        have ex : x.toInt.toNat = e := by omega
        rw [ex] at f5
        refine ⟨xv2, r, ⟨a, r0, rfl, hr0, z_blt c3, ?_⟩, hr, z_in_le (z_ile_ok v1) (z_ile_ok v2) k2⟩
        rw [he]
        exact ⟨a3, e3, f5⟩
      · cases d2
    · cases c4
  · cases c3
def zy_fit (cl : List vw_C) (tx tm : Nat) (mk : Nat × Nat) (nw : List (zLoc × zV)) (st : zS) : Bool := match z_loc (z_L st) 0, z_loc (z_L st) 1, z_loc (z_L st) 2, z_loc (z_L st) 3 with
  | some d0, some d1, some d2, some d3 => (match z_get (z_V st) d1, z_get (z_V st) d2, z_get (z_V st) d3 with
    | some (.inr (.inl t1)), some (.inr (.inl t2)), some (.inl r) => (Nat.beq t1 tx && Nat.beq t2 tm) && (z_ile 0 r.1 && z_ile r.2 0)
    | _, _, _ => false) && ((Nat.beq d0 0 && (z_S st).isEmpty) && ((Nat.ble (z_C st).1 mk.1 && Nat.ble (z_C st).2 mk.2) && zy_nw cl d2 st nw))
  | _, _, _, _ => false
def zy_hs (cl : List vw_C) (hpc tx tm : Nat) (mk : Nat × Nat) (nw : List (zLoc × zV)) : zHk := fun pc st => cond (Nat.beq pc hpc && zy_fit cl tx tm mk nw st) (some []) none
def zy_chk (TY : List zTy) (PHI : List (List Nat)) (cl : List vw_C) (FT : Nat → Nat → FieldType) (MT : List zM) (SG : List (Nat × zSig)) (PHS : List Nat) (R : Room) (nL mc ms : Nat) (cc : ByteArray) (ce : zCe) (hpc tx tm : Nat) (mk : Nat × Nat) (nw : List (zLoc × zV)) (N : Int) : Bool := z_run (zm_stp TY PHI cl FT MT SG PHS R nL mc ms cc ce.1 (zy_hs cl hpc tx tm mk nw)) (z_cut [] 2 none) ce.2.2 0 (zm_st0 N)
/-- what stands at the head: the objects, by their types -/
def zy_H (OB : Nat → Nat) (D : va_G) (DA : Nat → ClassId) (cl : List vw_C) (TY : List zTy) (sz : Nat) (H0 : Heap) (nL b tx tm : Nat) (nw : List (zLoc × zV)) (T : zTp) (H : Heap) (locs : List Loc) (ls : Array Slot) (x m : Nat) : Prop :=
  (z_ht OB D DA cl TY T H ∧ (∀ a t, T a = some t → sz ≤ a) ∧ va_S (fun q => sz ≤ q) H0 H locs) ∧ (T x = some tx ∧ T m = some tm) ∧
  (∃ lv, lv_has ls nL lv ∧ (∀ q ∈ lv, q.2.category = 1) ∧ (0, Value.ref b) ∈ lv ∧ (1, Value.ref x) ∈ lv ∧ (2, Value.ref m) ∈ lv ∧ (3, Value.int 0) ∈ lv) ∧
  ∀ q ∈ nw, ∃ (y : Int32) (r : zR), z_lv D cl H (some (.ref m)) q.1 (.int y) ∧ q.2 = .inl r ∧ z_in r y
section ZYSTART
variable {p : Program} {l : Launch} {e : Env} {R : Room} {s : State} {m : MethodId} {args : Array Value} {below : List Frame} {meth : Method} {c : Code} {Q : State → Prop} {cc : ByteArray}
variable {OB : Nat → Nat} {D : va_G} {DA : Nat → ClassId} {cl : List vw_C} {FT : Nat → Nat → FieldType} {TY : List zTy} {PHI : List (List Nat)} {nL : Nat} {KXf : (Nat → Nat) → Nat → State → Heap → Prop}
variable {TBL : List Cond} {own : String} {MT : List zM} {SG : List (Nat × zSig)} {PHS : List Nat} {ce : zCe} {mc ms : Nat} {b L N : Nat} {xs : Nat → Int32} {hpc tx tm : Nat} {mk : Nat × Nat} {nw : List (zLoc × zV)}
theorem zy_start (hx : p.tables.exec = Jvm.exec) (hb : c.code = cc) (hml : c.maxLocals = nL) (hN : N ≤ 100000) (hL : L ≤ N) (hOB : OB 0 = b) (hD : z_Dy s m args TBL own D cl DA (z_tys DA)) (hXp : z_KXp s.heap.size (KXf OB s.heap.size)) (hKX : KXf OB s.heap.size s s.heap) (hKS : z_KS TBL TBL cl FT own MT ce.1) (hin : k_IN ce.1 = none) (hPH : ∀ a ∈ PHS, z_phok TY PHI a = true)
    (hok : ∀ g ∈ (k_CA ce.1).filterMap (fun a => SG[a.2]?), ∀ m2, MT[g.1]? = some m2 → z_OK TBL cl FT TY PHI KXf m2.1 m2.2.1 m2.2.2.1 m2.2.2.2.1 g.2) (hend : ∀ pc H ls, decode cc pc = .ok (.ireturn, 1) → W p l e R s m args below meth c H [] mc ms Q (F0 m pc ls [.int 1]))
    (hS : zy_chk TY PHI cl FT MT SG PHS R nL mc ms cc ce hpc tx tm mk nw (N : Int) = true)
    (hI : ∀ T H locs ls x m2, zy_H OB D DA cl TY s.heap.size s.heap nL b tx tm nw T H locs ls x m2 → W p l e R s m args below meth c H locs mk.1 mk.2 Q (F0 m hpc ls []))
    {ls : Array Slot} (hls : z_ls nL ls [.ref b, .int (Int32.ofNat L)] [(0, 0)]) : W p l e R s m args below meth c s.heap [] 0 0 Q (F0 m 0 ls []) := by
  have hLi : (Int32.ofNat L).toInt = (L : Int) := Int32.toInt_ofNat_of_lt (by omega)
  have hsat : z_sat OB D DA cl TY PHI s.heap.size none false (fun _ => none) s.heap [.ref b, .int (Int32.ofNat L)] nL (zm_st0 (N : Int)) (fun _ => none) s.heap [] [.ref b, .int (Int32.ofNat L)] ls [] := by
    refine ⟨rfl, ⟨[], by rw [List.append_nil]⟩, hls, rfl, fun q hq => ?_, fun q hq => absurd hq List.not_mem_nil, fun q hq => absurd hq List.not_mem_nil, fun q hq => absurd hq List.not_mem_nil, trivial, ⟨fun a t ht => absurd ht (by simp), fun a t ci fl ha => absurd ha (by simp), fun a a' t t' ci fl fl' ha => absurd ha (by simp)⟩, ⟨fun a t ht => absurd ht (by simp), fun h => absurd h (by simp), z_fin_rf⟩, fun a t ht => absurd ht (by simp), fun q _ _ _ => ⟨rfl, rfl⟩, va_S.rf⟩
    rcases List.mem_cons.mp hq with rfl | hq
    · exact ⟨_, rfl, by show _ = Value.ref (OB 0); rw [hOB]⟩
    rcases List.mem_cons.mp hq with rfl | hq
    · exact ⟨_, rfl, _, rfl, by rw [z_in, hLi]; exact ⟨by show (0 : Int) ≤ _; omega, by show _ ≤ (N : Int); omega⟩⟩
    cases hq
  refine z_runs (CU := []) (ng := 2) (ends := fun env : List Value => env[0]? = some (Value.ref b) ∧ env[1]? = some (Value.int (Int32.ofNat L))) (fun env1 env2 he hgh => ⟨(hgh 0 (by omega)).trans he.1, (hgh 1 (by omega)).trans he.2⟩) (fun env1 pc st Ls he hL2 hall => ?_) (stp := zm_stp TY PHI cl FT MT SG PHS R nL mc ms cc ce.1 (zy_hs cl hpc tx tm mk nw)) (fuel := ce.2.2) rfl hS ⟨rfl, rfl⟩ (Nat.le_refl _) hsat
  have hgg : z_Good p l e R s m args below meth c Q OB D DA cl TY PHI s.heap.size none false (fun _ => none) s.heap env1 nL (fun pc st => ∀ T2 H2 locs2 env2 ls2 stk2, z_sat OB D DA cl TY PHI s.heap.size none false (fun _ => none) s.heap env1 nL st T2 H2 locs2 env2 ls2 stk2 → W p l e R s m args below meth c H2 locs2 (z_C st).1 (z_C st).2 Q (F0 m pc ls2 stk2)) := fun _ _ => Iff.rfl
  unfold zm_stp z_hst at hL2
  split at hL2
  · rename_i L3 hL3
    cases hL2
    unfold zy_hs at hL3
    obtain ⟨hc, -⟩ := z_cond hL3
    rw [Bool.and_eq_true] at hc
    have hpc2 := z_beq hc.1
    subst hpc2
    intro T H locs env ls2 stk hs
    have hf := hc.2
    unfold zy_fit at hf
    split at hf
    · rename_i d0 d1 d2 d3 l0 l1 l2 l3
      simp only [Bool.and_eq_true] at hf
      obtain ⟨hv, ⟨h0, hS0⟩, ⟨c1, c2⟩, hnw⟩ := hf
      split at hv
      · rename_i t1 t2 r v1 v2 v3
        simp only [Bool.and_eq_true] at hv
        obtain ⟨⟨e1, e2⟩, r1, r2⟩ := hv
        obtain ⟨w1, x1, a1, rfl, y1⟩ := z_get_ok hs.2.2.2.2.1 v1
        obtain ⟨w2, x2, a2, rfl, y2⟩ := z_get_ok hs.2.2.2.2.1 v2
        obtain ⟨w3, x3, a3, rfl, y3⟩ := z_get_ok hs.2.2.2.2.1 v3
        have k1 := z_ile_ok r1
        have k2 := z_ile_ok r2
        have k3 := y3.1
        have k4 := y3.2
        have ea : a3 = 0 := z_int0 (by omega)
        subst ea
        obtain ⟨lv, m1, m2, m3⟩ := hs.2.2.1
        obtain ⟨w, hw⟩ := hs.2.1
        have mem : ∀ {i d : Nat} {v : Value}, z_loc (z_L st) i = some d → env[d]? = some v → (i, v) ∈ lv := fun hl he => by
          obtain ⟨v, q1, q2⟩ := m3 _ (z_loc_mem hl)
          have q1 : env[_]? = some v := q1
          rw [he] at q1
          cases q1
          exact q2
        have hk := hs.2.2.2.1
        rw [List.isEmpty_iff.mp hS0] at hk
        have hk : stk = [] := hk
        subst hk
        have hm := hs.2.2.2.2.2.2.2.2.2
        have hb0 : env[d0]? = some (Value.ref b) := by rw [z_beq h0, hw]; exact z_app he.1
        exact W.widen (Nat.le_of_ble_eq_true c1) (Nat.le_of_ble_eq_true c2) (hI T H locs ls2 a1 a2 ⟨⟨hm.1, hm.2.1.1, hm.2.2.2.2⟩, ⟨by rw [y1, z_beq e1], by rw [y2, z_beq e2]⟩, ⟨lv, m1, m2, mem l0 hb0, mem l1 x1, mem l2 x2, mem l3 x3⟩, zy_nw_ok hnw hs x2⟩)
      · cases hv
    · cases hf
  · exact z_stp_ok hgg hx hb hml hD (Nat.le_refl _) hXp hKX hKS (fun j hj => by rw [hin] at hj; cases hj) hPH hok (fun pc st hd hf => by cases hf) (fun pc st hd hf => zl_fin_ok hgg rfl hend hd hf) hL2 hall
end ZYSTART
