/-! A part of a method over names, the rest over types: from one place on to every return of an int. -/
theorem zb_dec {code : ByteArray} {pc : Nat} {q : Instr × Nat} (h : decode code pc = .ok q) : pc < code.size := by
  rcases Nat.lt_or_ge pc code.size with lt | ge
  · exact lt
  · exfalso
    have hn : ¬ pc < code.size := by omega
    have e : (Reader.u1 (ε := DecodeError)).runAt code pc = .error (HasTruncated.truncated pc) := by
      have e0 : (Reader.u1 (ε := DecodeError)).runAt code pc = (dite (pc < code.size) (fun _ => ((do set (pc + 1); return (code[pc]!).toNat) : Reader DecodeError Nat)) (fun _ => ((throw (HasTruncated.truncated pc)) : Reader DecodeError Nat))) code pc := by
        rw [dif_neg hn]
        show (dite (pc < code.size) _ (fun _ => ((throw (HasTruncated.truncated pc)) : Reader DecodeError Nat))) code pc = _
        rw [dif_neg hn]
      rw [e0, dif_neg hn]
      rfl
    have e2 : (Decoder.instr pc).runAt code pc = .error (HasTruncated.truncated pc) := by
      show ((Reader.u1 (ε := DecodeError)).runAt code pc >>= _) = _
      rw [e]; rfl
    unfold decode at h
    rw [e2] at h
    cases h
def zb_end (st : zS) : zS := ([], [z_n st], z_n st + 1, (z_n st, .inl z_full) :: z_V st, [], [], z_R st, [], z_C st, z_ph st)
def zb_rall (code : ByteArray) (rets : List Nat) : Bool := (List.range code.size).all (fun pc => match decode code pc with
  | .ok (.ireturn, 1) => rets.any (fun p => Nat.beq p pc)
  | _ => true)
def zb_iL : List (Option (Nat ⊕ zR)) → List zNV → Prop
  | [], L => L = []
  | none :: K, L => ∃ L', L = .inr 1000 :: L' ∧ zb_iL K L'
  | some (.inl c) :: K, L => ∃ L', L = .inr c :: L' ∧ zb_iL K L'
  | some (.inr r) :: K, L => ∃ x L', L = .inl x :: L' ∧ r.1 ≤ x ∧ x ≤ r.2 ∧ zb_iL K L'
def zb_cLl (RC : List zbC) (st : zS) (d0 : Nat) : Nat → List (Option (Nat ⊕ zR)) → Bool
  | _, [] => true
  | i, none :: K => zb_cLl RC st d0 (i + 1) K
  | i, some (.inl c) :: K => (match z_loc (z_L st) i with
    | some d => (match RC[c]? with
      | some (.inl _) => Nat.beq d d0
      | some (.inr u) => Nat.beq u.1 0 && (match z_ffind st d0 u.2.1 u.2.2 with
        | some w => Nat.beq w d
        | none => false)
      | none => false)
    | none => false) && zb_cLl RC st d0 (i + 1) K
  | i, some (.inr r) :: K => (match z_loc (z_L st) i with
    | some d => (match z_get (z_V st) d with
      | some (.inl w) => z_ile r.1 w.1 && z_ile w.2 r.2
      | _ => false)
    | none => false) && zb_cLl RC st d0 (i + 1) K
/-- fields of the first name of which more is known -/
def zb_cX (y : zNL) (st : zS) (d0 : Nat) (FX : List (Nat × Nat × Nat × zR)) : Bool := FX.all (fun u => (n_I y).any (fun q => Nat.beq q.1 0 && Nat.beq q.2.1 u.2.1 && (Nat.beq q.2.2.1 u.2.2.1 && Nat.beq q.2.2.2 u.1)) && (match z_ffind st d0 u.2.1 u.2.2.1 with
  | some w => (match z_get (z_V st) w with
    | some (.inl r) => z_ile u.2.2.2.1 r.1 && z_ile r.2 u.2.2.2.2
    | _ => false)
  | none => false))
def zb_oX (FX : List (Nat × Nat × Nat × zR)) (F : List Int) : Prop := ∀ u ∈ FX, ∃ x, zn_l F u.1 = some x ∧ u.2.2.2.1 ≤ x ∧ x ≤ u.2.2.2.2
def zb_hk (TY : List zTy) (g : zSig) (NT : List Nat) (RC : List zbC) (y : zNL) (p0 : Nat) (KL : List (Option (Nat ⊕ zR))) (FX : List (Nat × Nat × Nat × zR)) (rets : List Nat) : zHk := fun pc st => cond (Nat.beq pc p0) (match z_loc (z_L st) 0 with
  | some d0 => (match z_ty st d0, NT[0]? with
    | some t, some t0 => cond ((Nat.beq t t0 && (z_S st).isEmpty) && ((z_X st).isEmpty && zb_cLl RC st d0 0 KL) && (zb_cX y st d0 FX && (Nat.ble (z_C st).1 (g_mk g).1 && Nat.ble (z_C st).2 (g_mk g).2))) (some (rets.map (fun p => (p, zb_end st)))) none
    | _, _ => none)
  | none => none) none
section ZREGION
variable {OB : Nat → Nat} {D : va_G} {DA : Nat → ClassId} {cl : List vw_C} {FT : Nat → Nat → FieldType} {TY : List zTy} {PHI : List (List Nat)} {sz : Nat} {raw : Option Nat} {pu : Bool} {T0 T : zTp} {H0 H H1 : Heap} {env0 env : List Value} {nL : Nat} {st : zS} {locs locs1 : List Loc} {ls : Array Slot} {stk : List Value} {y : zNL} {NT : List Nat} {RC : List zbC} {A : Nat → Nat}
theorem zb_L {lv : List (Nat × Value)} {d0 : Nat} (hw : ∀ (c : Nat) (u : Nat × Nat × Nat), RC[c]? = some (.inr u) → u.1 = 0 → z_sl H (A 0) (D.2 u.2.1 u.2.2) (.ref (A c))) (hs : z_sat OB D DA cl TY PHI sz raw pu T0 H0 env0 nL st T H locs env ls stk) (h0 : env[d0]? = some (.ref (A 0))) (hRC : ∀ (c i : Nat), RC[c]? = some (.inl i) → c = 0)
    (hlv : ∀ q ∈ z_L st, ∃ v, env[q.2]? = some v ∧ (q.1, v) ∈ lv) : ∀ {KL : List (Option (Nat ⊕ zR))} {i : Nat}, zb_cLl RC st d0 i KL = true → ∃ L, zb_iL KL L ∧ ∀ j v, zn_l L j = some v → zn_is v → ∃ w, zn_v A v w ∧ (i + j, w) ∈ lv
  | [], i, _ => ⟨[], rfl, fun j v h => by cases h⟩
  | none :: K, i, h => by
    obtain ⟨L, l1, l2⟩ := zb_L (KL := K) (i := i + 1) hw hs h0 hRC hlv h
    refine ⟨.inr 1000 :: L, ⟨L, rfl, l1⟩, fun j v hj hv => ?_⟩
    match j, hj with
    | 0, hj =>
      have e : (.inr 1000 : zNV) = v := Option.some.inj hj
      subst e
      have hv : (1000 : Nat) < 1000 := hv
      omega
    | j + 1, hj =>
      obtain ⟨w, w1, w2⟩ := l2 j v hj hv
      exact ⟨w, w1, by rw [show i + (j + 1) = i + 1 + j by omega]; exact w2⟩
  | some (.inl c) :: K, i, h => by
    simp only [zb_cLl, Bool.and_eq_true] at h
    obtain ⟨h1, h2⟩ := h
    obtain ⟨L, l1, l2⟩ := zb_L (KL := K) (i := i + 1) hw hs h0 hRC hlv h2
    refine ⟨.inr c :: L, ⟨L, rfl, l1⟩, fun j v hj hv => ?_⟩
    match j, hj with
    | 0, hj =>
      have e : (.inr c : zNV) = v := Option.some.inj hj
      subst e
      split at h1
      · rename_i d hd
        obtain ⟨x, x1, x2⟩ := hlv _ (z_loc_mem hd)
        have x1 : env[d]? = some x := x1
        split at h1
        · rename_i i2 hi2
          have e2 : d = d0 := z_beq h1
          have e3 := hRC c i2 hi2
          subst e2; subst e3
          rw [h0] at x1
          cases x1
          exact ⟨_, rfl, x2⟩
        · rename_i u hu
          rw [Bool.and_eq_true] at h1
          obtain ⟨h3, h4⟩ := h1
          split at h4
          · rename_i w hw2
            have e2 : w = d := z_beq h4
            subst e2
            obtain ⟨a, v2, y1, y2, y3⟩ := z_ffind_ok hw2 hs
            rw [h0] at y1
            have ea : A 0 = a := by cases y1; rfl
            subst ea
            have := zj_fun (hw c u hu (z_beq h3)) y3
            rw [← this, x1] at y2
            cases y2
            exact ⟨_, rfl, x2⟩
          · cases h4
        · cases h1
      · cases h1
    | j + 1, hj =>
      obtain ⟨w, w1, w2⟩ := l2 j v hj hv
      exact ⟨w, w1, by rw [show i + (j + 1) = i + 1 + j by omega]; exact w2⟩
  | some (.inr r) :: K, i, h => by
    simp only [zb_cLl, Bool.and_eq_true] at h
    obtain ⟨h1, h2⟩ := h
    obtain ⟨L, l1, l2⟩ := zb_L (KL := K) (i := i + 1) hw hs h0 hRC hlv h2
    split at h1
    · rename_i d hd
      obtain ⟨x, x1, x2⟩ := hlv _ (z_loc_mem hd)
      have x1 : env[d]? = some x := x1
      split at h1
      · rename_i w hw2
        rw [Bool.and_eq_true] at h1
        have q1 := z_ile_ok h1.1
        have q2 := z_ile_ok h1.2
        obtain ⟨v2, y1, n, rfl, y2, y3⟩ := z_get_ok hs.2.2.2.2.1 hw2
        rw [x1] at y1
        cases y1
        refine ⟨.inl n.toInt :: L, ⟨n.toInt, L, rfl, by omega, by omega, l1⟩, fun j v hj hv => ?_⟩
        match j, hj with
        | 0, hj =>
          have e : (.inl n.toInt : zNV) = v := Option.some.inj hj
          subst e
          exact ⟨_, ⟨n, rfl, rfl⟩, x2⟩
        | j + 1, hj =>
          obtain ⟨w, w1, w2⟩ := l2 j v hj hv
          exact ⟨w, w1, by rw [show i + (j + 1) = i + 1 + j by omega]; exact w2⟩
      · cases h1
    · cases h1
theorem zb_X {d0 : Nat} {FX : List (Nat × Nat × Nat × zR)} {F : List Int} {G : List (Int → Int)} (hr : zn_rep D DA cl y A F G H) (hs : z_sat OB D DA cl TY PHI sz raw pu T0 H0 env0 nL st T H locs env ls stk) (h0 : env[d0]? = some (.ref (A 0))) (h : zb_cX y st d0 FX = true) : zb_oX FX F := by
  intro u hu
  have h1 := List.all_eq_true.mp h u hu
  rw [Bool.and_eq_true] at h1
  obtain ⟨h2, h3⟩ := h1
  obtain ⟨q, q1, q2⟩ := List.any_eq_true.mp h2
  simp only [Bool.and_eq_true] at q2
  obtain ⟨⟨e1, e2⟩, e3, e4⟩ := q2
  split at h3
  · rename_i w hw
    split at h3
    · rename_i r hr2
      rw [Bool.and_eq_true] at h3
      have l1 := z_ile_ok h3.1
      have l2 := z_ile_ok h3.2
      obtain ⟨a, v, y1, y2, y3⟩ := z_ffind_ok hw hs
      rw [h0] at y1
      have ea : A 0 = a := by cases y1; rfl
      subst ea
      obtain ⟨v2, z1, n, rfl, z2, z3⟩ := z_get_ok hs.2.2.2.2.1 hr2
      rw [y2] at z1
      cases z1
      obtain ⟨rr, x, k1, k2, k3, k4⟩ := hr.2.1 q q1
      rw [z_beq e1, z_beq e2, z_beq e3] at k3
      have := zj_fun k3 y3
      cases this
      exact ⟨_, by rw [← z_beq e4]; exact k4, by omega, by omega⟩
    · cases h3
  · cases h3
/-- the state behind the part -/
theorem zb_after {v : Int32} {A : Nat → Nat} {ls1 : Array Slot} (hs : z_sat OB D DA cl TY PHI sz raw false T0 H0 env0 nL st T H locs env ls stk) (hA : ∀ c, c < n_N y → ∃ t, NT[c]? = some t ∧ T (A c) = some t) (hf : zn_frm D cl y A H H1) (hS : va_S (fun q => sz ≤ q) H H1 locs1) (hht : z_ht OB D DA cl TY T H1) (hfin : z_fin D cl TY T H T H1)
    (hls : ∃ lv, lv_has ls1 nL lv ∧ ∀ q ∈ lv, q.2.category = 1) : z_sat OB D DA cl TY PHI sz raw false T0 H0 env0 nL (zb_end st) T H1 locs1 (env ++ [.int v]) ls1 [.int v] := by
  have hm := hs.2.2.2.2.2.2.2.2.2
  have hn : (env ++ [Value.int v])[z_n st]? = some (.int v) := by rw [← hs.1]; simp
  obtain ⟨lv, lv1, lv2⟩ := hls
  have hgeA : ∀ c, c < n_N y → sz ≤ A c := fun c hc => by obtain ⟨t, _, t2⟩ := hA c hc; exact hm.2.1.1 _ t t2
  refine ⟨by show (env ++ [Value.int v]).length = z_n st + 1; rw [List.length_append, hs.1]; rfl, ?_, ⟨lv, lv1, lv2, fun q hq => absurd hq List.not_mem_nil⟩, ⟨_, [], rfl, hn, rfl⟩, fun q hq => ?_, fun q hq => absurd hq List.not_mem_nil, fun q hq => absurd hq List.not_mem_nil, z_fr_app hs.2.2.2.2.2.2.2.1, trivial, hht, ⟨hm.2.1.1, fun h => (by cases h), z_fin_tr hm.2.1.2.2 hfin⟩, hm.2.2.1, fun q hq1 hq2 hq3 => ?_, ⟨Nat.le_trans hm.2.2.2.2.1 hS.1, fun q hq1 hq2 => ?_, hS.2.2⟩⟩
  · obtain ⟨w, hw⟩ := hs.2.1
    exact ⟨w ++ [.int v], by rw [hw, List.append_assoc]⟩
  · rcases List.mem_cons.mp hq with rfl | hq
    · exact ⟨_, hn, v, rfl, z_in_full v⟩
    · exact z_fv_app hs.2.2.2.2.1 q hq
  · obtain ⟨g1, g2⟩ := hm.2.2.2.1 q hq1 hq2 hq3
    refine ⟨g1, ?_⟩
    rw [hf.2.1 q (fun c hc e => ?_), g2]
    obtain ⟨t, _, t2⟩ := hA c hc
    rw [e, g1] at t2
    cases t2
  · rw [hS.2.1 q (Nat.lt_of_lt_of_le hq1 hm.2.2.2.2.1) hq2]
    exact hm.2.2.2.2.2.1 q hq1 hq2
end ZREGION
def zb_r0 (RC : List zbC) : Bool := match RC with
  | .inl _ :: L => L.all (fun q => match q with
    | .inr _ => true
    | .inl _ => false)
  | _ => false
def zb_rk (y : zNL) (RC : List zbC) : Bool := (List.range RC.length).all (fun c => match RC[c]? with
  | some (.inr u) => (n_R y).any (fun q => Nat.beq q.1 u.1 && Nat.beq q.2.1 u.2.1 && (Nat.beq q.2.2.1 u.2.2 && Nat.beq q.2.2.2 c))
  | _ => true)
theorem zb_r0_ok {RC : List zbC} (h : zb_r0 RC = true) : (∃ i, RC[0]? = some (.inl i)) ∧ ∀ (c i : Nat), RC[c]? = some (.inl i) → c = 0 := by
  unfold zb_r0 at h
  split at h
  · rename_i i0 L
    refine ⟨⟨i0, rfl⟩, fun c i hc => ?_⟩
    cases c with
    | zero => rfl
    | succ c =>
      have hc : L[c]? = some (.inl i) := by simpa using hc
      have := List.all_eq_true.mp h _ (List.mem_of_getElem? hc)
      cases this
  · cases h
section ZREGION2
variable {cl : List vw_C} {FT : Nat → Nat → FieldType} {TY : List zTy} {PHI : List (List Nat)} {KXf : (Nat → Nat) → Nat → State → Heap → Prop} {TBL : List Cond} {MT : List zM} {mm : zM} {g : zSig} {K : zK} {y : zNL} {NT : List Nat} {RC : List zbC} {rm : Nat × Nat} {RF : List zR} {RG : List (Nat × zR)} {RFo : List (Nat × Option zR)} {RGo : List (Nat × Option (Nat × zR))} {KL : List (Option (Nat ⊕ zR))} {FX : List (Nat × Nat × Nat × zR)} {rets : List Nat} {p0 : Nat} {JB JA : List Int → List (Int → Int) → Prop}
theorem zb_reg_ok {KP : List Nat} (hkp : KP.all (fun j => RGo.any (fun u => Nat.beq u.1 j && u.2.isNone)) = true) (hw : zb_wf TY cl y NT RC = true) (hwf : zn_wf y = true) (hr0 : (zb_r0 RC && zb_rk y RC) = true) (hc : ((zb_ciF TY NT (n_I y) RF && zb_ciG TY NT (n_A y) RG) && (zb_cF TY NT y RFo && zb_cG TY NT y RGo)) = true) (hJ : zb_Jm cl TY y NT KP JB JA) (hpu : g_pur g = false) (hrm : rm.1 ≤ (g_rm g).1 ∧ rm.2 ≤ (g_rm g).2) (hXp : ∀ OB sz, z_KXp sz (KXf OB sz))
    (hKS : z_KS (Cond.code mm.1 mm.2.1 mm.2.2.1 mm.2.2.2.1 :: TBL) TBL cl FT mm.1.cls MT K) (hrets : zb_rall mm.2.1 rets = true)
    (hbody : ∀ (good' : Nat → List zNV → List zNV → List Int → List (Int → Int) → Prop) (L : List zNV) (F : List Int) (G : List (Int → Int)), zn_B cl FT KXf TBL MT y mm K rm good' → zb_iL KL L → zb_iF RF F → zb_iG RG G → zb_oX FX F → JB F G → (∀ pc L' v F' G', decode mm.2.1 pc = .ok (.ireturn, 1) → zb_oF RFo F F' → zb_oG RGo G G' → JA F' G' → good' pc L' [.inl v] F' G') → good' p0 L [] F G) :
    z_hok TBL cl TY PHI KXf mm g (zb_hk TY g NT RC y p0 KL FX rets) := by
  simp only [Bool.and_eq_true] at hc hr0
  obtain ⟨⟨hcF, hcG⟩, hcFo, hcGo⟩ := hc
  obtain ⟨hr0, hrr⟩ := hr0
  obtain ⟨⟨i0, hi0⟩, hRC⟩ := zb_r0_ok hr0
  intro p l e s m args below meth c Q OB D DA sz raw T0 H0 env0 good hg hx hb hml hD hsz hX pc st Lz hL hall
  rw [hpu] at hg
  unfold zb_hk at hL
  cases hpc : Nat.beq pc p0 with
  | false => rw [hpc] at hL; cases hL
  | true =>
    rw [hpc] at hL
    have hpc := z_beq hpc
    subst hpc
    simp only [cond_true] at hL
    split at hL
    · rename_i d0 hd0
      split at hL
      · rename_i t t0 ht ht0
        obtain ⟨hck, rfl⟩ := z_cond hL
        simp only [Bool.and_eq_true] at hck
        obtain ⟨⟨⟨k1, k2⟩, k3, k4⟩, k5, k6, k7⟩ := hck
        have et : t = t0 := z_beq k1
        subst et
        refine (hg _ _).mpr fun T H locs env ls stk hs => ?_
        have hm := hs.2.2.2.2.2.2.2.2.2
        have hk := hs.2.2.2.1
        rw [List.isEmpty_iff.mp k2] at hk
        have hk : stk = [] := hk
        subst hk
        obtain ⟨a0, e1, e2⟩ := z_ty_ok hs.2.2.2.2.1 ht
        obtain ⟨A, hOB, hA, hAS, hrep, hrF, hrG⟩ := zb_open hw hm.1.1 (S := fun _ => a0) (fun c i h => by
          have := hRC c i h
          subst this
          exact ⟨t, ht0, e2⟩)
        have eA : A 0 = a0 := hAS 0 i0 hi0
        subst eA
        have hiF : zb_iF RF (zb_F D H A y) := zb_ciF_ok hcF (fun q hq w hqw => by
          obtain ⟨x, x1, x2⟩ := hrF q hq w hqw
          unfold zb_F at x1
          rw [zb_place (zb_wfS hw).1 hq] at x1
          have x1 := Option.some.inj x1
          rw [x1]; exact x2)
        have hiG : zb_iG RG (zb_G H A y) := zb_ciG_ok hcG (fun q hq o hqo st hst2 j j1 j2 j3 r hr => by
          obtain ⟨g, x1, x2⟩ := hrG q hq o hqo
          unfold zb_G at x1
          rw [zb_place (zb_wfS hw).2 hq] at x1
          have x1 := Option.some.inj x1
          subst x1
          exact x2 st hst2 j j1 j2 j3 r hr)
        obtain ⟨hJB, hJo⟩ := hJ OB D DA T H A _ _ hm.1.1 hm.1.2 hA hrep
        have hgeA : ∀ c, c < n_N y → sz ≤ A c := fun c hc => by obtain ⟨t, _, t2⟩ := hA c hc; exact hm.2.1.1 _ _ t2
        obtain ⟨lv, lv1, lv2, lv3⟩ := hs.2.2.1
        have link : ∀ (c : Nat) (u : Nat × Nat × Nat), RC[c]? = some (.inr u) → u.1 = 0 → z_sl H (A 0) (D.2 u.2.1 u.2.2) (.ref (A c)) := by
          intro c u hc hu
          have h1 := List.all_eq_true.mp hrr c (List.mem_range.mpr (List.getElem?_eq_some_iff.mp hc).1)
          rw [hc] at h1
          obtain ⟨q, q1, q2⟩ := List.any_eq_true.mp h1
          simp only [Bool.and_eq_true] at q2
          obtain ⟨⟨y1, y2⟩, y3, y4⟩ := q2
          obtain ⟨r, -, -, z⟩ := hrep.2.2.1 q q1
          rw [z_beq y1, z_beq y2, z_beq y3, z_beq y4, hu] at z
          exact z
        obtain ⟨L, l1, l2⟩ := zb_L (i := 0) link hs e1 hRC lv3 k4
        have hXs := zb_X hrep hs e1 k5
        have hszH : sz ≤ H.size := Nat.le_trans hsz hm.2.2.2.2.1
        have hB : zn_B cl FT KXf TBL MT y mm K rm (fun pc L S F G => ∀ H1 locs1 ls1 stk1, zn_rep D DA cl y A F G H1 → zn_frm D cl y A H H1 → va_S (fun q => sz ≤ q) H H1 locs1 → zn_lv mm.2.2.1 ls1 A L → zn_st A S stk1 → W p l e (z_room g) s m args below meth c H1 locs1 (z_C st).1 (z_C st).2 Q (F0 m pc ls1 stk1)) :=
          ⟨p, l, e, z_room g, s, m, args, below, meth, c, Q, OB, D, DA, sz, A, H, _, (z_C st).1, (z_C st).2, ⟨hx, hb, hml, hD, hKS⟩, ⟨hszH, hXp OB sz, (hXp OB sz).2.1 s H0 H hX hm.2.2.2.2.1 hm.2.2.2.2.2.1, hrm.1, hrm.2, Nat.le_of_ble_eq_true k6, Nat.le_of_ble_eq_true k7⟩, ⟨hwf, zb_inj hw hA, hgeA, hOB⟩, fun _ _ _ _ _ => Iff.rfl⟩
        refine hbody _ L _ _ hB l1 hiF hiG hXs hJB (fun pc2 L' v F' G' hd o1 o2 o3 => ?_) H locs ls [] hrep zn_frm_rf ⟨Nat.le_refl _, fun _ _ _ => rfl, hm.2.2.2.2.2.2⟩ ⟨lv, lv1, lv2, fun i v hi hv => by obtain ⟨w, w1, w2⟩ := l2 i v hi hv; exact ⟨w, w1, by rw [Nat.zero_add] at w2; exact w2⟩⟩ rfl
        intro H1 locs1 ls1 stk1 r1 f1 s1 n1 st1
        obtain ⟨w, k', rfl, ⟨x, rfl, hx2⟩, hk'⟩ := st1
        have hk' : k' = [] := hk'
        subst hk'
        have hmem : pc2 ∈ rets := by
          have h1 := List.all_eq_true.mp hrets pc2 (List.mem_range.mpr (zb_dec hd))
          rw [hd] at h1
          obtain ⟨p3, p4, p5⟩ := List.any_eq_true.mp h1
          rw [← z_beq p5]; exact p4
        have hgo := hall (pc2, zb_end st) (List.mem_map.mpr ⟨pc2, hmem, rfl⟩)
        have hrF' := zb_cF_ok hw hcFo hrF (fun q hq => by obtain ⟨_, x, _, _, _, h⟩ := r1.2.1 q hq; exact ⟨x, h⟩) o1
        have hrG' := zb_cG_ok hcGo hrG (fun q hq => by obtain ⟨f, g, _, h, h2⟩ := r1.2.2.2 q hq; exact ⟨g, h, fun j hj => by obtain ⟨x, _, x2⟩ := h2 j hj; exact ⟨x, x2⟩⟩) o2
        obtain ⟨c1, c2⟩ := zb_close hw hm.1.1 hA r1 f1 hrF' hrG'
        obtain ⟨lv', n2, n3, -⟩ := n1
        exact (hg _ _).mp hgo T H1 locs1 _ ls1 _ (zb_after (v := x) hs hA f1 s1 ⟨c1, hJo _ F' G' c1 r1 f1 (zb_kp hkp o2) o3⟩ c2 ⟨lv', n2, n3⟩)
      · cases hL
    · cases hL
end ZREGION2
