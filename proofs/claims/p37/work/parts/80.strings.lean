/-! The place of a letter in a string constant. -/
section ZSTRN
variable {cl : List vw_C} {FT : Nat → Nat → FieldType} {own own2 tx : String} {k1 k2 n : Nat} {TBL : List Cond} {MT : List zM} {y : zNL} {mm : zM} {K : zK} {rm : Nat × Nat} {good : Nat → List zNV → List zNV → List Int → List (Int → Int) → Prop}
variable {pc : Nat} {L S : List zNV} {F : List Int} {G : List (Int → Int)}
theorem zt_stat (hB : zn_B cl FT (zs_KX own tx k1 n own2 k2) TBL MT y mm K rm good) {i : Nat} (hw : Cond.fieldLink mm.1.cls i "java/lang/String" "COMPACT_STRINGS" "Z" ∈ TBL) (hd : decode mm.2.1 pc = .ok (.getstatic i, 3)) (k : good (pc + 3) L (.inl 1 :: S) F G) : good pc L S F G := by
  obtain ⟨p, l, e, R, s, m, args, below, meth, c, Q, OB, D, DA, sz, A, H0, Ts, cells, slots, ⟨hx, hb, hml, hD, hKS⟩, ⟨hsz, hXp, hX, -⟩, ⟨hwf, hinj, hge, hOB⟩, hg⟩ := hB
  refine (hg _ _ _ _ _).mpr fun H locs ls stk h1 h2 h3 h4 h5 => ?_
  obtain ⟨f, g1, g2, g3, g4, g5, ⟨cf, kf, fi, fd, a, cell, q1, q2, q3, q4, q5, q6, q7, q8⟩, g7⟩ := zs_X0 hX h3
  exact W.gets hx hb hD.2.1 (hD.1 _ (hKS.2.2.2.2.2.1 _ hw).1) q1 q2 q3 q4 q5 (fun e => by rw [e] at q6; cases q6) q7 rfl hd ((hg _ _ _ _ _).mp k H locs ls _ h1 h2 h3 h4 ⟨_, _, rfl, ⟨1, rfl, rfl⟩, h5⟩)
theorem zt_coder (hB : zn_B cl FT (zs_KX own tx k1 n own2 k2) TBL MT y mm K rm good) {i : Nat} (hw : Cond.fieldLink mm.1.cls i "java/lang/String" "coder" "B" ∈ TBL) (hd : decode mm.2.1 pc = .ok (.getfield i, 3)) (k : good (pc + 3) L (.inl 0 :: S) F G) : good pc L (.inr 902 :: S) F G := by
  obtain ⟨p, l, e, R, s, m, args, below, meth, c, Q, OB, D, DA, sz, A, H0, Ts, cells, slots, ⟨hx, hb, hml, hD, hKS⟩, ⟨hsz, hXp, hX, -⟩, ⟨hwf, hinj, hge, hOB⟩, hg⟩ := hB
  refine (hg _ _ _ _ _).mpr fun H locs ls stk h1 h2 h3 h4 h5 => ?_
  obtain ⟨f, g1, g2, ⟨cf, kf, fi, fd, cell, q1, q2, q3, q4, q5, q6⟩, g4, g5, g6, g7⟩ := zs_X0 hX h3
  obtain ⟨w, st, rfl, hw2, h6⟩ := h5
  have hw2 : w = .ref (A (900 + 2)) := hw2
  rw [hOB 2] at hw2
  subst hw2
  exact W.getf hx hb hD.2.1 (hD.1 _ (hKS.2.2.2.2.2.1 _ hw).1) q1 q2 q3 q4 (v := .int 0) q5 rfl rfl hd ((hg _ _ _ _ _).mp k H locs ls _ h1 h2 h3 h4 ⟨_, _, rfl, ⟨0, rfl, rfl⟩, h6⟩)
theorem zt_value (hB : zn_B cl FT (zs_KX own tx k1 n own2 k2) TBL MT y mm K rm good) {i : Nat} (hw : Cond.fieldLink mm.1.cls i "java/lang/String" "value" "[B" ∈ TBL) (hd : decode mm.2.1 pc = .ok (.getfield i, 3)) (k : good (pc + 3) L (.inr 903 :: S) F G) : good pc L (.inr 902 :: S) F G := by
  obtain ⟨p, l, e, R, s, m, args, below, meth, c, Q, OB, D, DA, sz, A, H0, Ts, cells, slots, ⟨hx, hb, hml, hD, hKS⟩, ⟨hsz, hXp, hX, -⟩, ⟨hwf, hinj, hge, hOB⟩, hg⟩ := hB
  refine (hg _ _ _ _ _).mpr fun H locs ls stk h1 h2 h3 h4 h5 => ?_
  obtain ⟨f, g1, g2, g3, ⟨cf, kf, fi, fd, cell, q1, q2, q3, q4, q5, q6⟩, g5, g6, g7⟩ := zs_X0 hX h3
  obtain ⟨w, st, rfl, hw2, h6⟩ := h5
  have hw2 : w = .ref (A (900 + 2)) := hw2
  rw [hOB 2] at hw2
  subst hw2
  exact W.getf hx hb hD.2.1 (hD.1 _ (hKS.2.2.2.2.2.1 _ hw).1) q1 q2 q3 q4 (v := .ref (OB 3)) q5 rfl rfl hd ((hg _ _ _ _ _).mp k H locs ls _ h1 h2 h3 h4 ⟨_, _, rfl, (congrArg Value.ref (hOB 3)).symm, h6⟩)
theorem zt_len (hB : zn_B cl FT (zs_KX own tx k1 n own2 k2) TBL MT y mm K rm good) (hn : n < 2147483648) (hd : decode mm.2.1 pc = .ok (.arraylength, 1)) (k : good (pc + 1) L (.inl n :: S) F G) : good pc L (.inr 903 :: S) F G := by
  obtain ⟨p, l, e, R, s, m, args, below, meth, c, Q, OB, D, DA, sz, A, H0, Ts, cells, slots, ⟨hx, hb, hml, hD, hKS⟩, ⟨hsz, hXp, hX, -⟩, ⟨hwf, hinj, hge, hOB⟩, hg⟩ := hB
  refine (hg _ _ _ _ _).mpr fun H locs ls stk h1 h2 h3 h4 h5 => ?_
  obtain ⟨f, g1, g2, g3, g4, ⟨cell, q1, q2, q3, q4, q5, q6, q7⟩, g6, g7⟩ := zs_X0 hX h3
  obtain ⟨w, st, rfl, hw2, h6⟩ := h5
  have hw2 : w = .ref (A (900 + 3)) := hw2
  rw [hOB 3] at hw2
  subst hw2
  exact W.alen (n := Int32.ofNat n) hx hb q1 q2 q5 rfl rfl hd ((hg _ _ _ _ _).mp k H locs ls _ h1 h2 h3 h4 ⟨_, _, rfl, ⟨_, rfl, Int32.toInt_ofNat_of_lt (by omega)⟩, h6⟩)
theorem zt_bald (hB : zn_B cl FT (zs_KX own tx k1 n own2 k2) TBL MT y mm K rm good) {a : Int} (ha1 : 0 ≤ a) (ha2 : a < n) (hd : decode mm.2.1 pc = .ok (.baload, 1)) (k : ∀ v : Int, good (pc + 1) L (.inl v :: S) F G) : good pc L (.inl a :: .inr 903 :: S) F G := by
  obtain ⟨p, l, e, R, s, m, args, below, meth, c, Q, OB, D, DA, sz, A, H0, Ts, cells, slots, ⟨hx, hb, hml, hD, hKS⟩, ⟨hsz, hXp, hX, -⟩, ⟨hwf, hinj, hge, hOB⟩, hg⟩ := hB
  refine (hg _ _ _ _ _).mpr fun H locs ls stk h1 h2 h3 h4 h5 => ?_
  obtain ⟨f, g1, g2, g3, g4, ⟨cell, q1, q2, q3, q4, q5, q6, q7⟩, g6, g7⟩ := zs_X0 hX h3
  obtain ⟨w0, st0, rfl, ⟨x, rfl, rfl⟩, w, st, rfl, hw2, h6⟩ := h5
  have hw2 : w = .ref (A (900 + 3)) := hw2
  rw [hOB 3] at hw2
  subst hw2
  obtain ⟨b1, b2⟩ := zn_ix ha1 ha2
  have b3 : x.toNatClampNeg < n := b2
  obtain ⟨v, v1⟩ := g7 _ b3
  have hin' : ¬ (x < 0 ∨ cell.slots.size ≤ x.toNatClampNeg) := by
    intro q
    rcases q with q | q
    · exact b1 (Or.inl q)
    · omega
  exact W.bald (v := .int v) hx hb q1 q2 q3 hin' (by rw [q6 _ b3, v1]) rfl rfl hd ((hg _ _ _ _ _).mp (k v.toInt) H locs ls _ h1 h2 h3 h4 ⟨_, _, rfl, ⟨v, rfl, rfl⟩, h6⟩)
theorem zt_i2c (hB : zn_B cl FT (zs_KX own tx k1 n own2 k2) TBL MT y mm K rm good) {a : Int} (hd : decode mm.2.1 pc = .ok (.i2c, 1)) (k : ∀ v : Int, good (pc + 1) L (.inl v :: S) F G) : good pc L (.inl a :: S) F G := by
  obtain ⟨p, l, e, R, s, m, args, below, meth, c, Q, OB, D, DA, sz, A, H0, Ts, cells, slots, ⟨hx, hb, hml, hD, hKS⟩, ⟨hsz, hXp, hX, -⟩, ⟨hwf, hinj, hge, hOB⟩, hg⟩ := hB
  refine (hg _ _ _ _ _).mpr fun H locs ls stk h1 h2 h3 h4 h5 => ?_
  obtain ⟨w, st, rfl, ⟨x, rfl, hx2⟩, h6⟩ := h5
  exact lv_i2c hx hb hd rfl ((hg _ _ _ _ _).mp (k _) H locs ls _ h1 h2 h3 h4 ⟨_, _, rfl, ⟨_, rfl, rfl⟩, h6⟩)
theorem zt_i2b (hB : zn_B cl FT (zs_KX own tx k1 n own2 k2) TBL MT y mm K rm good) {a : Int} (hd : decode mm.2.1 pc = .ok (.i2b, 1)) (k : ∀ v : Int, good (pc + 1) L (.inl v :: S) F G) : good pc L (.inl a :: S) F G := by
  obtain ⟨p, l, e, R, s, m, args, below, meth, c, Q, OB, D, DA, sz, A, H0, Ts, cells, slots, ⟨hx, hb, hml, hD, hKS⟩, ⟨hsz, hXp, hX, -⟩, ⟨hwf, hinj, hge, hOB⟩, hg⟩ := hB
  refine (hg _ _ _ _ _).mpr fun H locs ls stk h1 h2 h3 h4 h5 => ?_
  obtain ⟨w, st, rfl, ⟨x, rfl, hx2⟩, h6⟩ := h5
  exact lv_i2b hx hb hd rfl ((hg _ _ _ _ _).mp (k _) H locs ls _ h1 h2 h3 h4 ⟨_, _, rfl, ⟨_, rfl, rfl⟩, h6⟩)
/-- a call of a string's method -/
theorem zt_inv (hB : zn_B cl FT (zs_KX own tx k1 n own2 k2) TBL MT y mm K rm good) {i : Nat} {mm2 : zM} {rm2 : Nat × Nat} {P2 : zNP} {Q2 : zNQ} {va : List zNV} (hok : zn_OK TBL cl (zs_KX own tx k1 n own2 k2) y mm2 rm2 P2 Q2) (hlk : z_lk TBL mm.1.cls 0 i mm2.1 mm2.2.1 mm2.2.2.1 mm2.2.2.2.1 mm2.2.2.2.2.1) (hcl : mm2.1.cls = "java/lang/String") (hd : decode mm.2.1 pc = .ok (.invokevirtual i, 3))
    (hn : Nat.beq va.length mm2.2.2.2.2.1 = true) (hS : Nat.ble S.length 8 = true) (hr1 : rm2.1 + 1 ≤ rm.1) (hr2 : 8 + (mm2.2.2.1 + 11) + rm2.2 ≤ rm.2)
    (hP : P2 (.inr 902 :: va) F G) (k : ∀ r F' G', Q2 (.inr 902 :: va) F G r F' G' → good (pc + 3) L (zn_ro r S) F' G') : good pc L (va.reverse ++ .inr 902 :: S) F G := by
  obtain ⟨p, l, e, R, s, m, args, below, meth, cc, Q, OB, D, DA, sz, A, H0, Ts, cells, slots, ⟨hx, hb, hml, hD, hKS⟩, ⟨hsz, hXp, hX, hrf, hrl, hrc, hrs⟩, ⟨hwf, hinj, hge, hOB⟩, hg⟩ := hB
  refine (hg _ _ _ _ _).mpr fun H locs ls stk h1 h2 h3 h4 h5 => ?_
  have hgd := hKS.2.2.2.2.2.1
  obtain ⟨hcode, hini, hmh, hnp, k1', k2', k3'⟩ := hlk
  obtain ⟨hts, hown, hK, htys⟩ := hD
  obtain ⟨va1, st1, rfl, hv1, w0, st2, rfl, hw, h6⟩ := zn_st_app h5
  have hw : w0 = .ref (A (900 + 2)) := hw
  subst hw
  have hrev : ∃ vb, va1 = vb.reverse ∧ zn_st A va vb := ⟨va1.reverse, by rw [List.reverse_reverse], by have := zn_st_rev hv1; rwa [List.reverse_reverse] at this⟩
  obtain ⟨vb, rfl, hvb⟩ := hrev
  obtain ⟨f, g1, ⟨cell, q1, q2, q3, q4⟩, g3, g4, g5, g6, g7⟩ := zs_X0 hX h3
  have hnp2 : ∀ sig, parseMethodDescriptor mm2.1.desc = some sig → mm2.2.2.2.2.1 = sig.parameters.length := by
    intro sig hsig
    rw [hsig] at hnp
    exact (Option.some.inj hnp).symm
  have hwsG : ∀ w ∈ (Cond.code mm2.1 mm2.2.1 mm2.2.2.1 mm2.2.2.2.1 :: TBL), ∀ (a' : Array Value) (U : State), s.WarmedH U.vm → w.before a' U = true := by
    refine z_pay hts (fun w hw => ?_)
    rcases List.mem_cons.mp hw with rfl | hw
    · exact ⟨(hgd _ hcode).1, rfl⟩
    · exact ⟨(hgd w hw).1, (hgd w hw).2⟩
  have hH : sz ≤ H.size := by rw [h2.1]; exact hsz
  have hXH := hXp.2.1 s H0 H hX h3.1 h3.2.1
  have hlen := zn_st_len hvb
  have hst : zn_st A (.inr 902 :: va) (.ref (A (900 + 2)) :: vb) := ⟨_, _, rfl, rfl, hvb⟩
  have hpre : ∀ U : State, U.heap = H → s.WarmedH U.vm → zn_Pre D DA cl y sz (zs_KX own tx k1 n own2 k2 OB sz) A (.inr 902 :: va) F G (Value.ref (A (900 + 2)) :: vb).toArray U := fun U hU hW => ⟨_, rfl, hst, by rw [hU]; exact h1, by rw [hU]; exact hH, va_K.moved hW.alike hK, by rw [hU]; exact hXp.1 s U H hXH hW⟩
  have hsum : (st2.map fun v => v.category).sum ≤ 8 := by
    rw [zn_sum1 (zn_st_cat h6), zn_st_len h6]
    exact Nat.le_of_ble_eq_true hS
  refine zn_after (va_runV (b := A (900 + 2)) (As := vb) (rest := st2) (C := mm2.1.cls) (n := mm2.2.2.2.2.1) ⟨hx, hb, hml, hown, hts⟩ (hok l OB D DA sz A _ F G hP hinj hge hOB) ⟨⟨rfl, rfl, by show rm2.1 + 1 ≤ _; omega, by show 8 + (mm2.2.2.1 + 11) + rm2.2 ≤ _; omega, hwsG, List.mem_cons_self, hts _ (hgd _ hcode).1, hts _ (hgd _ hini).1, hmh, hnp2, hts _ (hgd _ k1').1⟩, hts _ (hgd _ k2').1, hts _ (hgd _ k3').1⟩ ⟨zn_blind hXp, ⟨cell, by rw [hOB 2]; exact q1, q2, by rw [hcl]; exact q3⟩, hpre⟩ rfl (hlen.trans (z_beq hn)) (by obtain ⟨lv, z1, _⟩ := h4; exact z1.1) rfl (lv_room hsum) hd ⟨hrc, hrs⟩) h3 ?_ ?_
  · intro v s1 t hs1 hq
    obtain ⟨r', v', F', G', e0, q1, q2, q3, q4⟩ := hq
    rw [hs1] at q3
    exact ⟨q3.1, fun q hq => q3.2.1 q (fun c2 hc2 e => hq (by rw [← e]; exact hge _ hc2))⟩
  · intro v s1 t locs1 hs1 hq hS1
    obtain ⟨r', v', F', G', e0, q1, q2, q3, q4⟩ := hq
    have e0 : v = v' := Outcome.returned.inj e0
    subst e0
    rw [hs1] at q3
    refine (hg _ _ _ _ _).mp (k r' F' G' q4) t.heap locs1 ls _ q2 (zn_frm_tr h2 q3) hS1 h4 ?_
    match r', v, q1 with
    | none, none, _ => exact h6
    | some x, some w, ⟨z, z1, z2⟩ => exact ⟨w, st2, rfl, ⟨z, z1, z2⟩, h6⟩
/-- a string's length -/
theorem zt_length (hB : zn_B cl FT (zs_KX own tx k1 n own2 k2) TBL MT y mm K rm good) {i : Nat} (hw : ∀ w ∈ zs_w, w ∈ TBL) (hn : n < 2147483648) (hlk : Cond.methodLink mm.1.cls i zs_yL ∈ TBL) (hd : decode mm.2.1 pc = .ok (.invokevirtual i, 3)) (hS : Nat.ble S.length 8 = true) (hr1 : 2 ≤ rm.1) (hr2 : 40 ≤ rm.2)
    (k : good (pc + 3) L (.inl n :: S) F G) : good pc L (.inr 902 :: S) F G := by
  obtain ⟨p, l, e, R, s, m, args, below, meth, cc, Q, OB, D, DA, sz, A, H0, Ts, cells, slots, ⟨hx, hb, hml, hD, hKS⟩, ⟨hsz, hXp, hX, hrf, hrl, hrc, hrs⟩, ⟨hwf, hinj, hge, hOB⟩, hg⟩ := hB
  refine (hg _ _ _ _ _).mpr fun H locs ls stk h1 h2 h3 h4 h5 => ?_
  have hgd := hKS.2.2.2.2.2.1
  obtain ⟨hts, hown, hK, htys⟩ := hD
  obtain ⟨w0, st2, rfl, hw0, h6⟩ := h5
  have hw0 : w0 = .ref (A (900 + 2)) := hw0
  rw [hOB 2] at hw0
  subst hw0
  have hKH : zs_K own2 tx k2 n (fun j => OB (j + 1)) sz s H := by
    obtain ⟨f, g1, g2, g3, g4, g5, g6, g7⟩ := zs_X0 hX h3
    exact ⟨OB 3, f, g1, g2, g3, g4, g5, g6⟩
  have hK0 := hKH
  obtain ⟨adV, f, y1, y2, y3, y4, y5, y6⟩ := hKH
  have hw2 : ∀ w ∈ zs_w, w.before args s = true := fun w h => hts w (hgd _ (hw w h)).1
  have hwsG : ∀ w ∈ (Cond.code zs_yL prog_18_method_54_code 1 (some .int) :: TBL), ∀ (a' : Array Value) (U : State), s.WarmedH U.vm → w.before a' U = true := by
    refine z_pay hts (fun w h => ?_)
    rcases List.mem_cons.mp h with rfl | h
    · exact ⟨(hgd _ (hw _ (List.mem_of_getElem? (i := 8) rfl))).1, rfl⟩
    · exact ⟨(hgd w h).1, (hgd w h).2⟩
  refine W.callR (W.runV (b := OB 2) (As := []) (rest := st2) (C := "java/lang/String") (n := 0) (index := i) ⟨hx, hb, hml, hown, hts⟩ (zs_length (own := own2) (tx := tx) (k := k2) (n := n) (OB := fun j => OB (j + 1)) (sz := sz) l hw (fun w h => (hgd w h).2) hn) ⟨⟨rfl, rfl, by show 1 + 1 ≤ _; omega, by show 8 + (1 + 11) + 20 ≤ _; omega, hwsG, List.mem_cons_self, hw2 _ (List.mem_of_getElem? (i := 8) rfl), hw2 _ (List.mem_of_getElem? (i := 6) rfl), by decide, fun sig h => ?_, hts _ (hgd _ hlk).1⟩, hw2 _ (List.mem_of_getElem? (i := 9) rfl), hw2 _ (List.mem_of_getElem? (i := 10) rfl)⟩ ⟨zs_blind, ?_, fun U hU hW => ⟨rfl, ?_⟩⟩ rfl rfl (by obtain ⟨lv, z1, _⟩ := h4; exact z1.1) rfl ?_ hd ⟨hrc, hrs⟩) ?_
  · have : (parseMethodDescriptor "()I").map (fun d => d.parameters.length) = some 0 := by decide +kernel
    rw [h] at this
    exact (Option.some.inj this).symm
  · obtain ⟨cell, z1, z2, z3, -⟩ := y2
    exact ⟨cell, z1, z2, z3⟩
  · rw [hU]
    exact zs_K_p.1 s U H hK0 hW
  · refine lv_room ?_
    rw [zn_sum1 (zn_st_cat h6), zn_st_len h6]
    exact Nat.le_of_ble_eq_true hS
  · exact (hg _ _ _ _ _).mp k H locs ls _ h1 h2 h3 h4 ⟨_, _, rfl, ⟨_, rfl, Int32.toInt_ofNat_of_lt (by omega)⟩, h6⟩
end ZSTRN
