/-! Calls over named cells; a method's contract. -/
/-- the method that is called -/
def zv_lk (K : zK) (MT : List zM) (kinds : Nat → Bool) (i : Nat) : Option zM := match (k_LK K).find? (fun q => Nat.beq q.1 i && kinds q.2.1) with
  | some q => MT[q.2.2]?
  | none => none
section ZVCALL
variable {cl : List vw_C} {FT : Nat → Nat → FieldType} {KXf : (Nat → Nat) → Nat → State → Heap → Prop} {TBL : List Cond} {MT : List zM} {y : zNL} {mm : zM} {K : zK} {rm : Nat × Nat} {good : Nat → List zNV → List zNV → List zNV → List (Int → Int) → Prop}
variable {pc : Nat} {L S : List zNV} {F : List zNV} {G : List (Int → Int)}
theorem zv_lk_ok {kinds : Nat → Bool} {i : Nat} {mm2 : zM} {Ts : List Cond} {own : String} (hKS : z_KS Ts TBL cl FT own MT K) (h : zv_lk K MT kinds i = some mm2) (hk : ∀ k, kinds k = true → k ≤ 4) :
    ∃ k, kinds k = true ∧ z_lk Ts own k i mm2.1 mm2.2.1 mm2.2.2.1 mm2.2.2.2.1 mm2.2.2.2.2.1 ∧ (k = 0 → ∃ r, cl[mm2.2.2.2.2.2]? = some r ∧ r.1 = mm2.1.cls) := by
  unfold zv_lk at h
  split at h
  · rename_i q hq
    have hm := List.mem_of_find?_eq_some hq
    have hp := List.find?_some hq
    have hp : (Nat.beq q.1 i && kinds q.2.1) = true := hp
    rw [Bool.and_eq_true] at hp
    obtain ⟨m3, x1, x2, x3⟩ := (hKS.2.2.1 q hm).2.2 (hk _ hp.2)
    rw [h] at x1
    cases x1
    rw [z_beq hp.1] at x2
    exact ⟨q.2.1, hp.2, x2, x3⟩
  · cases h
theorem zv_after {p : Program} {l : Launch} {e : Env} {R : Room} {s : State} {m : MethodId} {args : Array Value} {below : List Frame} {meth : Method} {c : Code} {Q : State → Prop} {sz : Nat} {H0 H : Heap} {locs : List Loc} {cells slots : Nat} {ls : Array Slot} {st0 rest : List Value} {Qz : State → Outcome → State → Prop}
    (hr : va_Run p l e R s m args below meth c H locs cells slots 0 0 (F0 m pc ls st0) rest Qz (fun q => sz ≤ q)) (hS : va_S (fun q => sz ≤ q) H0 H locs)
    (hQ : ∀ (v : Option Value) (s1 t : State), s1.heap = H → Qz s1 (.returned v) t → t.heap.size = H.size ∧ ∀ q : Nat, ¬ sz ≤ q → t.heap[q]? = H[q]?)
    (kk : ∀ (v : Option Value) (s1 t : State) (locs1 : List Loc), s1.heap = H → Qz s1 (.returned v) t → va_S (fun q => sz ≤ q) H0 t.heap locs1 → W p l e R s m args below meth c t.heap locs1 cells slots Q (F0 m (pc + 3) ls (v.toList ++ rest))) : W p l e R s m args below meth c H locs cells slots Q (F0 m pc ls st0) := by
  intro T1 hT X
  obtain ⟨v, st₀, t, T', L, h0, X', hL, e1, e2, hq, st⟩ := hr T1 hT X
  obtain ⟨q1, q2⟩ := hQ v st₀ t h0 hq
  obtain ⟨t2, a1, b1⟩ := kk v st₀ t (locs ++ L) h0 hq ⟨by rw [q1]; exact hS.1, fun q h1 h2 => by rw [q2 q h2]; exact hS.2.1 q h1 h2, fun q hq => by
      rcases List.mem_append.mp hq with h | h
      · exact hS.2.2 q h
      · exact hL q h⟩ T' e1 X'
  exact ⟨t2, st t2 a1, b1⟩
theorem zv_inv0 (hB : zv_B cl FT KXf TBL MT y mm K rm good) {i c : Nat} {mm2 : zM} {rm2 : Nat × Nat} {P2 : zNP} {Q2 : zNQ} {va : List zNV} (hok : zv_OK TBL cl KXf y mm2 rm2 P2 Q2) (hd : decode mm.2.1 pc = .ok (.invokevirtual i, 3)) (hl : zv_lk K MT (fun k => Nat.beq k 0) i = some mm2)
    (hc : (n_O y).any (fun o => Nat.beq o.1 c && Nat.beq o.2 mm2.2.2.2.2.2) = true) (hn : Nat.beq va.length mm2.2.2.2.2.1 = true) (hS : (Nat.ble S.length 8 && S.all zv_n1) = true) (hr : (Nat.ble (rm2.1 + 1) rm.1 && Nat.ble (8 + (mm2.2.2.1 + 11) + rm2.2) rm.2) = true)
    (hP : P2 (.inr c :: va) F G) (k : ∀ r F' G', Q2 (.inr c :: va) F G r F' G' → good (pc + 3) L (zv_ro r S) F' G') : good pc L (va.reverse ++ .inr c :: S) F G := by
  obtain ⟨p, l, e, R, s, m, args, below, meth, cc, Q, OB, D, DA, sz, A, H0, Ts, cells, slots, ⟨hx, hb, hml, hD, hKS⟩, ⟨hsz, hXp, hX, hrf, hrl, hrc, hrs⟩, ⟨hwf, hinj, hge, hOB⟩, hg⟩ := hB
  refine (hg _ _ _ _ _).mpr fun H locs ls stk h1 h2 h3 h4 h5 => ?_
  obtain ⟨kd, kd1, hlk, hci⟩ := zv_lk_ok hKS hl (fun k hk => by rw [z_beq hk]; omega)
  have : kd = 0 := z_beq kd1
  subst this
  obtain ⟨hcode, hini, hmh, hnp, k1, k2, k3⟩ := hlk
  obtain ⟨hts, hown, hK, htys⟩ := hD
  obtain ⟨va1, st1, rfl, hv1, w0, st2, rfl, hw, h6⟩ := zv_st_app h5
  have hc5 : c < 5000 := zv_any_lt hwf hc
  have hw : w0 = .ref (A c) := zv_w_r hw hc5
  subst hw
  have hrev : ∃ vb, va1 = vb.reverse ∧ zv_st A va vb := ⟨va1.reverse, by rw [List.reverse_reverse], by have := zv_st_rev hv1; rwa [List.reverse_reverse] at this⟩
  obtain ⟨vb, rfl, hvb⟩ := hrev
  obtain ⟨o, ho, ho2⟩ := List.any_eq_true.mp hc
  rw [Bool.and_eq_true] at ho2
  obtain ⟨o1, o2⟩ := o
  have e1 : o1 = c := z_beq ho2.1
  have e2 : o2 = mm2.2.2.2.2.2 := z_beq ho2.2
  subst e1; subst e2
  obtain ⟨r, V, y3, ⟨cell, y5, y6, y7, y8⟩⟩ := h1.1 _ ho
  obtain ⟨r2, hr2, hr3⟩ := hci rfl
  have y3 : cl[mm2.2.2.2.2.2]? = some r := y3
  rw [y3] at hr2
  cases hr2
  have hnp2 : ∀ sig, parseMethodDescriptor mm2.1.desc = some sig → mm2.2.2.2.2.1 = sig.parameters.length := by
    intro sig hsig
    rw [hsig] at hnp
    exact (Option.some.inj hnp).symm
  have hgd := hKS.2.2.2.2.2.1
  have hwsG : ∀ w ∈ (Cond.code mm2.1 mm2.2.1 mm2.2.2.1 mm2.2.2.2.1 :: TBL), ∀ (a' : Array Value) (U : State), s.WarmedH U.vm → w.before a' U = true := by
    refine z_pay hts (fun w hw => ?_)
    rcases List.mem_cons.mp hw with rfl | hw
    · exact ⟨hcode, rfl⟩
    · exact ⟨(hgd w hw).1, (hgd w hw).2⟩
  rw [Bool.and_eq_true] at hr
  have r1 := Nat.le_of_ble_eq_true hr.1
  have r2 := Nat.le_of_ble_eq_true hr.2
  have hH : sz ≤ H.size := by rw [h2.1]; exact hsz
  have hXH : KXf OB sz s H := hXp.2.1 s H0 H hX h3.1 h3.2.1
  have hlen := zv_st_len hvb
  have hst : zv_st A (.inr o1 :: va) (.ref (A o1) :: vb) := ⟨_, _, rfl, zv_w_mk hc5, hvb⟩
  have hpre : ∀ U : State, U.heap = H → s.WarmedH U.vm → zv_Pre D DA cl y sz (KXf OB sz) A (.inr o1 :: va) F G (Value.ref (A o1) :: vb).toArray U := fun U hU hW => ⟨_, rfl, hst, by rw [hU]; exact h1, by rw [hU]; exact hH, va_K.moved hW.alike hK, by rw [hU]; exact hXp.1 s U H hXH hW⟩
  have hsum : (st2.map fun v => v.category).sum ≤ 8 := by
    rw [Bool.and_eq_true] at hS
    rw [zv_sum1 (zv_st_cat hS.2 h6), zv_st_len h6]
    exact Nat.le_of_ble_eq_true hS.1
  refine zv_after (va_runV (b := A o1) (As := vb) (rest := st2) (C := mm2.1.cls) (n := mm2.2.2.2.2.1) ⟨hx, hb, hml, hown, hts⟩ (hok l OB D DA sz A _ F G hP hinj hge hOB) ⟨⟨rfl, rfl, by show rm2.1 + 1 ≤ _; omega, by show 8 + (mm2.2.2.1 + 11) + rm2.2 ≤ _; omega, hwsG, List.mem_cons_self, hts _ hcode, hts _ hini, hmh, hnp2, hts _ k1⟩, hts _ k2, hts _ k3⟩ ⟨zv_blind hXp, ⟨cell, y5, by rw [y7]; rfl, by rw [← hr3, y6]; exact (hK.1 _ _ y3).2.1⟩, hpre⟩ rfl (hlen.trans (z_beq hn)) (by obtain ⟨lv, z1, _⟩ := h4; exact z1.1) rfl (lv_room hsum) hd ⟨hrc, hrs⟩) h3 ?_ ?_
  · intro v s1 t hs1 hq
    obtain ⟨r', v', F', G', e0, q1, q2, q3, q4⟩ := hq
    rw [hs1] at q3
    exact ⟨q3.1, fun q hq => q3.2.1 q (fun c2 hc2 e => hq (by rw [← e]; exact hge _ hc2))⟩
  · intro v s1 t locs1 hs1 hq hS1
    obtain ⟨r', v', F', G', e0, q1, q2, q3, q4⟩ := hq
    have e0 : v = v' := Outcome.returned.inj e0
    subst e0
    rw [hs1] at q3
    refine (hg _ _ _ _ _).mp (k r' F' G' q4) t.heap locs1 ls _ q2 (zv_frm_tr h2 q3) hS1 h4 ?_
    match r', v, q1 with
    | none, none, _ => exact h6
    | some x, some w, ⟨z, z1, z2⟩ => exact ⟨w, st2, rfl, ⟨z, z1, z2⟩, h6⟩
theorem zv_inv1 (hB : zv_B cl FT KXf TBL MT y mm K rm good) {i : Nat} {mm2 : zM} {rm2 : Nat × Nat} {P2 : zNP} {Q2 : zNQ} {va : List zNV} (hok : zv_OK TBL cl KXf y mm2 rm2 P2 Q2) (hd : decode mm.2.1 pc = .ok (.invokestatic i, 3)) (hl : zv_lk K MT (fun k => Nat.beq k 1 || Nat.beq k 4) i = some mm2)
    (hn : Nat.beq va.length mm2.2.2.2.2.1 = true) (hS : (Nat.ble S.length 8 && S.all zv_n1) = true) (hr : (Nat.ble (rm2.1 + 1) rm.1 && Nat.ble (8 + (mm2.2.2.1 + 11) + rm2.2) rm.2) = true)
    (hP : P2 va F G) (k : ∀ r F' G', Q2 va F G r F' G' → good (pc + 3) L (zv_ro r S) F' G') : good pc L (va.reverse ++ S) F G := by
  obtain ⟨p, l, e, R, s, m, args, below, meth, cc, Q, OB, D, DA, sz, A, H0, Ts, cells, slots, ⟨hx, hb, hml, hD, hKS⟩, ⟨hsz, hXp, hX, hrf, hrl, hrc, hrs⟩, ⟨hwf, hinj, hge, hOB⟩, hg⟩ := hB
  refine (hg _ _ _ _ _).mpr fun H locs ls stk h1 h2 h3 h4 h5 => ?_
  obtain ⟨kd, kd1, hlk, hci⟩ := zv_lk_ok hKS hl (fun k hk => by
    rw [Bool.or_eq_true] at hk
    rcases hk with hk | hk <;> (rw [z_beq hk]; omega))
  obtain ⟨hcode, hini, hmh, hnp, hkind⟩ := hlk
  obtain ⟨hts, hown, hK, htys⟩ := hD
  obtain ⟨va1, st2, rfl, hv1, h6⟩ := zv_st_app h5
  have hrev : ∃ vb, va1 = vb.reverse ∧ zv_st A va vb := ⟨va1.reverse, by rw [List.reverse_reverse], by have := zv_st_rev hv1; rwa [List.reverse_reverse] at this⟩
  obtain ⟨vb, rfl, hvb⟩ := hrev
  have hnp2 : ∀ sig, parseMethodDescriptor mm2.1.desc = some sig → mm2.2.2.2.2.1 = sig.parameters.length := by
    intro sig hsig
    rw [hsig] at hnp
    exact (Option.some.inj hnp).symm
  have hgd := hKS.2.2.2.2.2.1
  have hwsG : ∀ w ∈ (Cond.code mm2.1 mm2.2.1 mm2.2.2.1 mm2.2.2.2.1 :: TBL), ∀ (a' : Array Value) (U : State), s.WarmedH U.vm → w.before a' U = true := by
    refine z_pay hts (fun w hw => ?_)
    rcases List.mem_cons.mp hw with rfl | hw
    · exact ⟨hcode, rfl⟩
    · exact ⟨(hgd w hw).1, (hgd w hw).2⟩
  rw [Bool.and_eq_true] at hr
  have r1 := Nat.le_of_ble_eq_true hr.1
  have r2 := Nat.le_of_ble_eq_true hr.2
  have hH : sz ≤ H.size := by rw [h2.1]; exact hsz
  have hXH : KXf OB sz s H := hXp.2.1 s H0 H hX h3.1 h3.2.1
  have hlen := zv_st_len hvb
  have hpre : ∀ U : State, U.heap = H → s.WarmedH U.vm → zv_Pre D DA cl y sz (KXf OB sz) A va F G vb.toArray U := fun U hU hW => ⟨_, rfl, hvb, by rw [hU]; exact h1, by rw [hU]; exact hH, va_K.moved hW.alike hK, by rw [hU]; exact hXp.1 s U H hXH hW⟩
  have hsum : (st2.map fun v => v.category).sum ≤ 8 := by
    rw [Bool.and_eq_true] at hS
    rw [zv_sum1 (zv_st_cat hS.2 h6), zv_st_len h6]
    exact Nat.le_of_ble_eq_true hS.1
  have run : va_Run p l e R s m args below meth cc H locs cells slots 0 0 (F0 m pc ls (vb.reverse ++ st2)) st2 (zv_Post D DA cl y A va F G Q2 vb.toArray) (fun q => sz ≤ q) := by
    rw [Bool.or_eq_true] at kd1
    rcases kd1 with kd1 | kd1
    · have : kd = 1 := z_beq kd1
      subst this
      obtain ⟨k1, k2⟩ := hkind
      exact va_runS (As := vb) (rest := st2) (n := mm2.2.2.2.2.1) ⟨hx, hb, hml, hown, hts⟩ (hok l OB D DA sz A _ F G hP hinj hge hOB) ⟨⟨rfl, rfl, by show rm2.1 + 1 ≤ _; omega, by show 8 + (mm2.2.2.1 + 11) + rm2.2 ≤ _; omega, hwsG, List.mem_cons_self, hts _ hcode, hts _ hini, hmh, hnp2, hts _ k1⟩, hts _ k2⟩ ⟨zv_blind hXp, hpre⟩ rfl (hlen.trans (z_beq hn)) (by obtain ⟨lv, z1, _⟩ := h4; exact z1.1) rfl (lv_room hsum) hd ⟨hrc, hrs⟩
    · have : kd = 4 := z_beq kd1
      subst this
      obtain ⟨⟨host, k1⟩, k2⟩ := hkind
      exact va_runSN (As := vb) (rest := st2) (n := mm2.2.2.2.2.1) ⟨hx, hb, hml, hown, hts⟩ (hok l OB D DA sz A _ F G hP hinj hge hOB) ⟨⟨⟨rfl, rfl, by show rm2.1 + 1 ≤ _; omega, by show 8 + (mm2.2.2.1 + 11) + rm2.2 ≤ _; omega, hwsG, List.mem_cons_self⟩, hts _ hcode, hts _ hini, hmh, hnp2, hts _ k1⟩, hts _ k2, trivial⟩ ⟨zv_blind hXp, hpre⟩ rfl (hlen.trans (z_beq hn)) (by obtain ⟨lv, z1, _⟩ := h4; exact z1.1) rfl (lv_room hsum) hd ⟨hrc, hrs⟩
  refine zv_after run h3 ?_ ?_
  · intro v s1 t hs1 hq
    obtain ⟨r', v', F', G', e0, q1, q2, q3, q4⟩ := hq
    rw [hs1] at q3
    exact ⟨q3.1, fun q hq => q3.2.1 q (fun c2 hc2 e => hq (by rw [← e]; exact hge _ hc2))⟩
  · intro v s1 t locs1 hs1 hq hS1
    obtain ⟨r', v', F', G', e0, q1, q2, q3, q4⟩ := hq
    have e0 : v = v' := Outcome.returned.inj e0
    subst e0
    rw [hs1] at q3
    refine (hg _ _ _ _ _).mp (k r' F' G' q4) t.heap locs1 ls _ q2 (zv_frm_tr h2 q3) hS1 h4 ?_
    match r', v, q1 with
    | none, none, _ => exact h6
    | some x, some w, ⟨z, z1, z2⟩ => exact ⟨w, st2, rfl, ⟨z, z1, z2⟩, h6⟩
/-- what a method may answer by its type -/
def zv_rt (ret : Option FieldType) (r : Option Int) : Prop := match ret, r with
  | none, none => True
  | some .int, some _ => True
  | some .boolean, some v => 0 ≤ v ∧ v ≤ 1
  | _, _ => False
theorem zv_meth {P : zNP} {Qs : zNQ} {n : Nat} (hpl : plainFor mm.1 = true) (hKS : z_KS (Cond.code mm.1 mm.2.1 mm.2.2.1 mm.2.2.2.1 :: TBL) TBL cl FT mm.1.cls MT K) (hXp : ∀ OB sz, z_KXp sz (KXf OB sz)) (hwf : zv_wf y = true) (hn : ∀ va F G, P va F G → va.length = n) (hn1 : ∀ va F G, P va F G → va.all zv_n1 = true) (hnl : Nat.ble n mm.2.2.1 = true)
    (body : ∀ (good : Nat → List zNV → List zNV → List zNV → List (Int → Int) → Prop) (va : List zNV) (F : List zNV) (G : List (Int → Int)), zv_B cl FT KXf TBL MT y mm K rm good → (∀ pc L v F' G', decode mm.2.1 pc = .ok (.ireturn, 1) → zv_rt mm.2.2.2.1 (some v) → Qs va F G (some v) F' G' → good pc L [.inl v] F' G') → (∀ pc L F' G', decode mm.2.1 pc = .ok (.return_, 1) → zv_rt mm.2.2.2.1 none → Qs va F G none F' G' → good pc L [] F' G') →
      P va F G → good 0 (va ++ List.replicate (mm.2.2.1 - n) (.inr 1000)) [] F G) : zv_OK TBL cl KXf y mm rm P Qs := by
  intro l OB D DA sz A va F G hP hinj hge hOB
  refine va_MetF (cc := mm.2.1) (maxL := mm.2.2.1) (ret := mm.2.2.2.1) hpl rfl ?_
  intro p e s m args below meth c s₁ B hml hPre
  obtain ⟨vals, e0, hst, hrep, hsz, hK, hX⟩ := hPre
  subst e0
  have hlen := zv_st_len hst
  have hcat := zv_st_cat (hn1 va F G hP) hst
  have hn0 := hn va F G hP
  have hnl := Nat.le_of_ble_eq_true hnl
  have hts : ∀ w ∈ (Cond.code mm.1 mm.2.1 mm.2.2.1 mm.2.2.2.1 :: TBL), w.before vals.toArray s = true := atoms_spec (ws := Cond.code mm.1 mm.2.1 mm.2.2.1 mm.2.2.2.1 :: TBL) B.pre
  have hown : s.vm.findClass mm.1.cls = some m.cls := findClass_of_methodNamed B.named
  have hD : z_Dy s m vals.toArray (Cond.code mm.1 mm.2.1 mm.2.2.1 mm.2.2.2.1 :: TBL) mm.1.cls D cl DA (z_tys DA) := ⟨hts, hown, hK, z_tys_ok DA⟩
  rw [lg_entry_eq]
  have hb2 := body (fun pc L S F2 G2 => ∀ H locs ls stk, zv_rep D DA cl y A F2 G2 H → zv_frm D cl y A s.heap H → va_S (fun q => sz ≤ q) s.heap H locs → zv_lv mm.2.2.1 ls A L → zv_st A S stk → W p l e { frames := rm.1, cells := 0, slots := 0, locals := rm.2 } s m vals.toArray below meth c H locs 0 0 (MQ below (zv_Post D DA cl y A va F G Qs) vals.toArray s 0 0 (fun q => sz ≤ q)) (F0 m pc ls stk)) va F G
    ⟨p, l, e, _, s, m, vals.toArray, below, meth, c, _, OB, D, DA, sz, A, s.heap, _, 0, 0, ⟨B.exec, B.bytes, hml, hD, hKS⟩, ⟨hsz, hXp OB sz, hX, Nat.le_refl _, Nat.le_refl _, Nat.zero_le _, Nat.zero_le _⟩, ⟨hwf, hinj, hge, hOB⟩, fun _ _ _ _ _ => Iff.rfl⟩ ?_ ?_ hP
  · refine hb2 s.heap [] _ [] hrep zv_frm_rf va_S.rf ?_ rfl
    obtain ⟨a1, a2, a3⟩ := z_args1 vals 0 hcat
    refine ⟨_, lv_entry vals (by rw [a1, hlen, hn0]; exact hnl), a2, fun i v hi hv => ?_⟩
    rw [zv_l_get] at hi
    by_cases hlt : i < va.length
    · rw [List.getElem?_append_left hlt] at hi
      obtain ⟨w, w1, w2⟩ := zv_st_get hst hi
      have := a3 i w w1
      rw [Nat.zero_add] at this
      exact ⟨w, w2, this⟩
    · rw [List.getElem?_append_right (by omega), List.getElem?_replicate] at hi
      split at hi
      · cases hi
        have hv : (1000 : Nat) < 1000 := hv
        omega
      · cases hi
  · intro pc L v F' G' hd hrt hq H locs ls stk h1 h2 h3 h4 h5
    obtain ⟨w, st2, rfl, ⟨x, rfl, rfl⟩, h6⟩ := h5
    have h6 : st2 = [] := h6
    subst h6
    unfold zv_rt at hrt
    split at hrt
    · rename_i e; cases e
    · rename_i hr _
      exact W.iret B.exec B.bytes (B.returns.trans hr) (fun t ht _ => ⟨some x.toInt, _, F', G', rfl, ⟨x, rfl, rfl⟩, by rw [ht]; exact h1, by rw [ht]; exact h2, hq⟩) (fun q hq => h3.2.2 q hq) hd B.notSynchronized
    · rename_i v2 hr e
      cases e
      have hnr : narrow .boolean (.int x) = .int x := by
        have hx : x.toInt = 0 ∨ x.toInt = 1 := by omega
        rcases hx with hx | hx
        · have : x = 0 := z_int0 hx
          subst this
          rfl
        · have : x = 1 := Int32.toInt_inj.mp (by rw [hx]; rfl)
          subst this
          rfl
      exact W.zret B.exec B.bytes (B.returns.trans hr) hnr (fun t ht _ => ⟨some x.toInt, _, F', G', rfl, ⟨x, rfl, rfl⟩, by rw [ht]; exact h1, by rw [ht]; exact h2, hq⟩) (fun q hq => h3.2.2 q hq) hd B.notSynchronized
    · exact absurd hrt (fun h => h)
  · intro pc L F' G' hd hrt hq H locs ls stk h1 h2 h3 h4 h5
    have h5 : stk = [] := h5
    subst h5
    have hr : mm.2.2.2.1 = none := by
      unfold zv_rt at hrt
      split at hrt
      · rename_i hr _; exact hr
      · rename_i e; cases e
      · rename_i e; cases e
      · exact absurd hrt (fun h => h)
    exact W.vret B.exec B.bytes (B.returns.trans hr) (fun t ht _ => ⟨none, none, F', G', rfl, trivial, by rw [ht]; exact h1, by rw [ht]; exact h2, hq⟩) (fun q hq => h3.2.2 q hq) hd B.notSynchronized
end ZVCALL
