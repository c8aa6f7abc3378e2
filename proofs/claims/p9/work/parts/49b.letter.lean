/-! The place of a letter in a string constant. -/
section ZVSTRN
variable {cl : List vw_C} {FT : Nat → Nat → FieldType} {own own2 tx : String} {k1 k2 n : Nat} {TBL : List Cond} {MT : List zM} {y : zNL} {mm : zM} {K : zK} {rm : Nat × Nat} {good : Nat → List zNV → List zNV → List zNV → List (Int → Int) → Prop}
variable {pc : Nat} {L S : List zNV} {F : List zNV} {G : List (Int → Int)}
theorem zkt_stat (hB : zv_B cl FT (zs_KX own tx k1 n own2 k2) TBL MT y mm K rm good) {i : Nat} (hw : Cond.fieldLink mm.1.cls i "java/lang/String" "COMPACT_STRINGS" "Z" ∈ TBL) (hd : decode mm.2.1 pc = .ok (.getstatic i, 3)) (k : good (pc + 3) L (.inl 1 :: S) F G) : good pc L S F G := by
  obtain ⟨p, l, e, R, s, m, args, below, meth, c, Q, OB, D, DA, sz, A, H0, Ts, cells, slots, ⟨hx, hb, hml, hD, hKS⟩, ⟨hsz, hXp, hX, -⟩, ⟨hwf, hinj, hge, hOB⟩, hg⟩ := hB
  refine (hg _ _ _ _ _).mpr fun H locs ls stk h1 h2 h3 h4 h5 => ?_
  obtain ⟨f, g1, g2, g3, g4, g5, ⟨cf, kf, fi, fd, a, cell, q1, q2, q3, q4, q5, q6, q7, q8⟩, g7⟩ := zs_X0 hX h3
  exact W.gets hx hb hD.2.1 (hD.1 _ (hKS.2.2.2.2.2.1 _ hw).1) q1 q2 q3 q4 q5 (fun e => by rw [e] at q6; cases q6) q7 rfl hd ((hg _ _ _ _ _).mp k H locs ls _ h1 h2 h3 h4 ⟨_, _, rfl, ⟨1, rfl, rfl⟩, h5⟩)
theorem zkt_coder (hB : zv_B cl FT (zs_KX own tx k1 n own2 k2) TBL MT y mm K rm good) {i : Nat} (hw : Cond.fieldLink mm.1.cls i "java/lang/String" "coder" "B" ∈ TBL) (hd : decode mm.2.1 pc = .ok (.getfield i, 3)) (k : good (pc + 3) L (.inl 0 :: S) F G) : good pc L (.inr 902 :: S) F G := by
  obtain ⟨p, l, e, R, s, m, args, below, meth, c, Q, OB, D, DA, sz, A, H0, Ts, cells, slots, ⟨hx, hb, hml, hD, hKS⟩, ⟨hsz, hXp, hX, -⟩, ⟨hwf, hinj, hge, hOB⟩, hg⟩ := hB
  refine (hg _ _ _ _ _).mpr fun H locs ls stk h1 h2 h3 h4 h5 => ?_
  obtain ⟨f, g1, g2, ⟨cf, kf, fi, fd, cell, q1, q2, q3, q4, q5, q6⟩, g4, g5, g6, g7⟩ := zs_X0 hX h3
  obtain ⟨w, st, rfl, hw2, h6⟩ := h5
  have hw2 : w = .ref (A (900 + 2)) := hw2
  rw [hOB 2] at hw2
  subst hw2
  exact W.getf hx hb hD.2.1 (hD.1 _ (hKS.2.2.2.2.2.1 _ hw).1) q1 q2 q3 q4 (v := .int 0) q5 rfl rfl hd ((hg _ _ _ _ _).mp k H locs ls _ h1 h2 h3 h4 ⟨_, _, rfl, ⟨0, rfl, rfl⟩, h6⟩)
theorem zkt_value (hB : zv_B cl FT (zs_KX own tx k1 n own2 k2) TBL MT y mm K rm good) {i : Nat} (hw : Cond.fieldLink mm.1.cls i "java/lang/String" "value" "[B" ∈ TBL) (hd : decode mm.2.1 pc = .ok (.getfield i, 3)) (k : good (pc + 3) L (.inr 903 :: S) F G) : good pc L (.inr 902 :: S) F G := by
  obtain ⟨p, l, e, R, s, m, args, below, meth, c, Q, OB, D, DA, sz, A, H0, Ts, cells, slots, ⟨hx, hb, hml, hD, hKS⟩, ⟨hsz, hXp, hX, -⟩, ⟨hwf, hinj, hge, hOB⟩, hg⟩ := hB
  refine (hg _ _ _ _ _).mpr fun H locs ls stk h1 h2 h3 h4 h5 => ?_
  obtain ⟨f, g1, g2, g3, ⟨cf, kf, fi, fd, cell, q1, q2, q3, q4, q5, q6⟩, g5, g6, g7⟩ := zs_X0 hX h3
  obtain ⟨w, st, rfl, hw2, h6⟩ := h5
  have hw2 : w = .ref (A (900 + 2)) := hw2
  rw [hOB 2] at hw2
  subst hw2
  exact W.getf hx hb hD.2.1 (hD.1 _ (hKS.2.2.2.2.2.1 _ hw).1) q1 q2 q3 q4 (v := .ref (OB 3)) q5 rfl rfl hd ((hg _ _ _ _ _).mp k H locs ls _ h1 h2 h3 h4 ⟨_, _, rfl, (congrArg Value.ref (hOB 3)).symm, h6⟩)
theorem zkt_len (hB : zv_B cl FT (zs_KX own tx k1 n own2 k2) TBL MT y mm K rm good) (hn : n < 2147483648) (hd : decode mm.2.1 pc = .ok (.arraylength, 1)) (k : good (pc + 1) L (.inl n :: S) F G) : good pc L (.inr 903 :: S) F G := by
  obtain ⟨p, l, e, R, s, m, args, below, meth, c, Q, OB, D, DA, sz, A, H0, Ts, cells, slots, ⟨hx, hb, hml, hD, hKS⟩, ⟨hsz, hXp, hX, -⟩, ⟨hwf, hinj, hge, hOB⟩, hg⟩ := hB
  refine (hg _ _ _ _ _).mpr fun H locs ls stk h1 h2 h3 h4 h5 => ?_
  obtain ⟨f, g1, g2, g3, g4, ⟨cell, q1, q2, q3, q4, q5, q6, q7⟩, g6, g7⟩ := zs_X0 hX h3
  obtain ⟨w, st, rfl, hw2, h6⟩ := h5
  have hw2 : w = .ref (A (900 + 3)) := hw2
  rw [hOB 3] at hw2
  subst hw2
  exact W.alen (n := Int32.ofNat n) hx hb q1 q2 q5 rfl rfl hd ((hg _ _ _ _ _).mp k H locs ls _ h1 h2 h3 h4 ⟨_, _, rfl, ⟨_, rfl, Int32.toInt_ofNat_of_lt (by omega)⟩, h6⟩)
theorem zkt_bald (hB : zv_B cl FT (zs_KX own tx k1 n own2 k2) TBL MT y mm K rm good) {a : Int} (ha1 : 0 ≤ a) (ha2 : a < n) (hd : decode mm.2.1 pc = .ok (.baload, 1)) (k : good (pc + 1) L (.inl (zs_by a.toNat).toInt :: S) F G) : good pc L (.inl a :: .inr 903 :: S) F G := by
  obtain ⟨p, l, e, R, s, m, args, below, meth, c, Q, OB, D, DA, sz, A, H0, Ts, cells, slots, ⟨hx, hb, hml, hD, hKS⟩, ⟨hsz, hXp, hX, -⟩, ⟨hwf, hinj, hge, hOB⟩, hg⟩ := hB
  refine (hg _ _ _ _ _).mpr fun H locs ls stk h1 h2 h3 h4 h5 => ?_
  obtain ⟨f, g1, g2, g3, g4, ⟨cell, q1, q2, q3, q4, q5, q6, q7⟩, g6, g7⟩ := zs_X0 hX h3
  obtain ⟨w0, st0, rfl, ⟨x, rfl, rfl⟩, w, st, rfl, hw2, h6⟩ := h5
  have hw2 : w = .ref (A (900 + 3)) := hw2
  rw [hOB 3] at hw2
  subst hw2
  obtain ⟨b1, b2⟩ := zv_ix ha1 ha2
  have b3 : x.toNatClampNeg < n := b2
  have v1 := g7 _ b3
  have hin' : ¬ (x < 0 ∨ cell.slots.size ≤ x.toNatClampNeg) := by
    intro q
    rcases q with q | q
    · exact b1 (Or.inl q)
    · omega
  exact W.bald (v := .int (zs_by x.toInt.toNat)) hx hb q1 q2 q3 hin' (by rw [q6 _ b3, v1]; rfl) rfl rfl hd ((hg _ _ _ _ _).mp k H locs ls _ h1 h2 h3 h4 ⟨_, _, rfl, ⟨_, rfl, rfl⟩, h6⟩)
theorem zkt_i2c (hB : zv_B cl FT (zs_KX own tx k1 n own2 k2) TBL MT y mm K rm good) {a : Int} (hd : decode mm.2.1 pc = .ok (.i2c, 1)) (k : ∀ v : Int, good (pc + 1) L (.inl v :: S) F G) : good pc L (.inl a :: S) F G := by
  obtain ⟨p, l, e, R, s, m, args, below, meth, c, Q, OB, D, DA, sz, A, H0, Ts, cells, slots, ⟨hx, hb, hml, hD, hKS⟩, ⟨hsz, hXp, hX, -⟩, ⟨hwf, hinj, hge, hOB⟩, hg⟩ := hB
  refine (hg _ _ _ _ _).mpr fun H locs ls stk h1 h2 h3 h4 h5 => ?_
  obtain ⟨w, st, rfl, ⟨x, rfl, hx2⟩, h6⟩ := h5
  exact lv_i2c hx hb hd rfl ((hg _ _ _ _ _).mp (k _) H locs ls _ h1 h2 h3 h4 ⟨_, _, rfl, ⟨_, rfl, rfl⟩, h6⟩)
theorem zkt_i2b (hB : zv_B cl FT (zs_KX own tx k1 n own2 k2) TBL MT y mm K rm good) {a : Int} (hd : decode mm.2.1 pc = .ok (.i2b, 1)) (k : ∀ v : Int, good (pc + 1) L (.inl v :: S) F G) : good pc L (.inl a :: S) F G := by
  obtain ⟨p, l, e, R, s, m, args, below, meth, c, Q, OB, D, DA, sz, A, H0, Ts, cells, slots, ⟨hx, hb, hml, hD, hKS⟩, ⟨hsz, hXp, hX, -⟩, ⟨hwf, hinj, hge, hOB⟩, hg⟩ := hB
  refine (hg _ _ _ _ _).mpr fun H locs ls stk h1 h2 h3 h4 h5 => ?_
  obtain ⟨w, st, rfl, ⟨x, rfl, hx2⟩, h6⟩ := h5
  exact lv_i2b hx hb hd rfl ((hg _ _ _ _ _).mp (k _) H locs ls _ h1 h2 h3 h4 ⟨_, _, rfl, ⟨_, rfl, rfl⟩, h6⟩)
/-- a call of a string's method -/
theorem zkt_inv (hB : zv_B cl FT (zs_KX own tx k1 n own2 k2) TBL MT y mm K rm good) {i : Nat} {mm2 : zM} {rm2 : Nat × Nat} {P2 : zNP} {Q2 : zNQ} {va : List zNV} (hok : zv_OK TBL cl (zs_KX own tx k1 n own2 k2) y mm2 rm2 P2 Q2) (hlk : z_lk TBL mm.1.cls 0 i mm2.1 mm2.2.1 mm2.2.2.1 mm2.2.2.2.1 mm2.2.2.2.2.1) (hcl : mm2.1.cls = "java/lang/String") (hd : decode mm.2.1 pc = .ok (.invokevirtual i, 3))
    (hn : Nat.beq va.length mm2.2.2.2.2.1 = true) (hS : (Nat.ble S.length 8 && S.all zv_n1) = true) (hr1 : rm2.1 + 1 ≤ rm.1) (hr2 : 8 + (mm2.2.2.1 + 11) + rm2.2 ≤ rm.2)
    (hP : P2 (.inr 902 :: va) F G) (k : ∀ r F' G', Q2 (.inr 902 :: va) F G r F' G' → good (pc + 3) L (zv_ro r S) F' G') : good pc L (va.reverse ++ .inr 902 :: S) F G := by
  obtain ⟨p, l, e, R, s, m, args, below, meth, cc, Q, OB, D, DA, sz, A, H0, Ts, cells, slots, ⟨hx, hb, hml, hD, hKS⟩, ⟨hsz, hXp, hX, hrf, hrl, hrc, hrs⟩, ⟨hwf, hinj, hge, hOB⟩, hg⟩ := hB
  refine (hg _ _ _ _ _).mpr fun H locs ls stk h1 h2 h3 h4 h5 => ?_
  have hgd := hKS.2.2.2.2.2.1
  obtain ⟨hcode, hini, hmh, hnp, k1', k2', k3'⟩ := hlk
  obtain ⟨hts, hown, hK, htys⟩ := hD
  obtain ⟨va1, st1, rfl, hv1, w0, st2, rfl, hw, h6⟩ := zv_st_app h5
  have hw : w0 = .ref (A (900 + 2)) := hw
  subst hw
  have hrev : ∃ vb, va1 = vb.reverse ∧ zv_st A va vb := ⟨va1.reverse, by rw [List.reverse_reverse], by have := zv_st_rev hv1; rwa [List.reverse_reverse] at this⟩
  obtain ⟨vb, rfl, hvb⟩ := hrev
  obtain ⟨f, g1, ⟨cell, q1, q2, q3, q4⟩, g3, g4, g5, g6, g7⟩ := zs_X0 hX h3
  have hnp2 : ∀ sig, parseMethodDescriptor mm2.1.desc = some sig → mm2.2.2.2.2.1 = sig.parameters.length := by
    intro sig hsig
    rw [hsig] at hnp
    exact (Option.some.inj hnp).symm
  have hwsG : ∀ w ∈ (Cond.code mm2.1 mm2.2.1 mm2.2.2.1 mm2.2.2.2.1 :: TBL), ∀ (a' : Array Value) (U : State), s.WarmedH U.vm → w.before a' U = true := by
    refine z_pay hts (fun w hw => ?_)
    rcases List.mem_cons.mp hw with rfl | hw
    · exact ⟨(hgd _ hcode).1, rfl⟩
    · exact ⟨(hgd w hw).1, (hgd w hw).2⟩
  have hH : sz ≤ H.size := by rw [h2.1]; exact hsz
  have hXH := hXp.2.1 s H0 H hX h3.1 h3.2.1
  have hlen := zv_st_len hvb
  have hst : zv_st A (.inr 902 :: va) (.ref (A (900 + 2)) :: vb) := ⟨_, _, rfl, zv_w_mk (A := A) (c := 902) (by decide), hvb⟩
  have hpre : ∀ U : State, U.heap = H → s.WarmedH U.vm → zv_Pre D DA cl y sz (zs_KX own tx k1 n own2 k2 OB sz) A (.inr 902 :: va) F G (Value.ref (A (900 + 2)) :: vb).toArray U := fun U hU hW => ⟨_, rfl, hst, by rw [hU]; exact h1, by rw [hU]; exact hH, va_K.moved hW.alike hK, by rw [hU]; exact hXp.1 s U H hXH hW⟩
  have hsum : (st2.map fun v => v.category).sum ≤ 8 := by
    rw [Bool.and_eq_true] at hS
    rw [zv_sum1 (zv_st_cat hS.2 h6), zv_st_len h6]
    exact Nat.le_of_ble_eq_true hS.1
  refine zv_after (va_runV (b := A (900 + 2)) (As := vb) (rest := st2) (C := mm2.1.cls) (n := mm2.2.2.2.2.1) ⟨hx, hb, hml, hown, hts⟩ (hok l OB D DA sz A _ F G hP hinj hge hOB) ⟨⟨rfl, rfl, by show rm2.1 + 1 ≤ _; omega, by show 8 + (mm2.2.2.1 + 11) + rm2.2 ≤ _; omega, hwsG, List.mem_cons_self, hts _ (hgd _ hcode).1, hts _ (hgd _ hini).1, hmh, hnp2, hts _ (hgd _ k1').1⟩, hts _ (hgd _ k2').1, hts _ (hgd _ k3').1⟩ ⟨zv_blind hXp, ⟨cell, by rw [hOB 2]; exact q1, q2, by rw [hcl]; exact q3⟩, hpre⟩ rfl (hlen.trans (z_beq hn)) (by obtain ⟨lv, z1, _⟩ := h4; exact z1.1) rfl (lv_room hsum) hd ⟨hrc, hrs⟩) h3 ?_ ?_
  · intro v s1 t hs1 hq
    obtain ⟨r', v', F', G', e0, q1, q2, q3, q4⟩ := hq
    rw [hs1] at q3
    exact ⟨q3.1, fun q hq => q3.2.1 q (fun c2 hc2 e => hq (by rw [← e]; exact hge _ hc2))⟩
  · intro v s1 t locs1 hs1 hq hS1
    obtain ⟨r', v', F', G', e0, q1, q2, q3, q4⟩ := hq
    have e0 : v = v' := Outcome.returned.inj e0
    subst e0
    rw [hs1] at q3
    refine (hg _ _ _ _ _).mp (k r' F' G' q4) t.heap locs1 ls _ q2 (zv_frm_tr h2 q3) hS1 h4 ?_
    match r', v, q1 with
    | none, none, _ => exact h6
    | some x, some w, ⟨z, z1, z2⟩ => exact ⟨w, st2, rfl, ⟨z, z1, z2⟩, h6⟩
/-- a string's length -/
theorem zkt_length (hB : zv_B cl FT (zs_KX own tx k1 n own2 k2) TBL MT y mm K rm good) {i : Nat} (hw : ∀ w ∈ zs_w, w ∈ TBL) (hn : n < 2147483648) (hlk : Cond.methodLink mm.1.cls i zs_yL ∈ TBL) (hd : decode mm.2.1 pc = .ok (.invokevirtual i, 3)) (hS : (Nat.ble S.length 8 && S.all zv_n1) = true) (hr1 : 2 ≤ rm.1) (hr2 : 40 ≤ rm.2)
    (k : good (pc + 3) L (.inl n :: S) F G) : good pc L (.inr 902 :: S) F G := by
  obtain ⟨p, l, e, R, s, m, args, below, meth, cc, Q, OB, D, DA, sz, A, H0, Ts, cells, slots, ⟨hx, hb, hml, hD, hKS⟩, ⟨hsz, hXp, hX, hrf, hrl, hrc, hrs⟩, ⟨hwf, hinj, hge, hOB⟩, hg⟩ := hB
  refine (hg _ _ _ _ _).mpr fun H locs ls stk h1 h2 h3 h4 h5 => ?_
  have hgd := hKS.2.2.2.2.2.1
  obtain ⟨hts, hown, hK, htys⟩ := hD
  obtain ⟨w0, st2, rfl, hw0, h6⟩ := h5
  have hw0 : w0 = .ref (A (900 + 2)) := hw0
  rw [hOB 2] at hw0
  subst hw0
  have hKH : zs_K own2 tx k2 n (fun j => OB (j + 1)) sz s H := by
    obtain ⟨f, g1, g2, g3, g4, g5, g6, g7⟩ := zs_X0 hX h3
    exact ⟨OB 3, f, g1, g2, g3, g4, g5, g6⟩
  have hK0 := hKH
  obtain ⟨adV, f, y1, y2, y3, y4, y5, y6⟩ := hKH
  have hw2 : ∀ w ∈ zs_w, w.before args s = true := fun w h => hts w (hgd _ (hw w h)).1
  have hwsG : ∀ w ∈ (Cond.code zs_yL prog_18_method_54_code 1 (some .int) :: TBL), ∀ (a' : Array Value) (U : State), s.WarmedH U.vm → w.before a' U = true := by
    refine z_pay hts (fun w h => ?_)
    rcases List.mem_cons.mp h with rfl | h
    · exact ⟨(hgd _ (hw _ (List.mem_of_getElem? (i := 8) rfl))).1, rfl⟩
    · exact ⟨(hgd w h).1, (hgd w h).2⟩
  refine W.callR (W.runV (b := OB 2) (As := []) (rest := st2) (C := "java/lang/String") (n := 0) (index := i) ⟨hx, hb, hml, hown, hts⟩ (zs_length (own := own2) (tx := tx) (k := k2) (n := n) (OB := fun j => OB (j + 1)) (sz := sz) l hw (fun w h => (hgd w h).2) hn) ⟨⟨rfl, rfl, by show 1 + 1 ≤ _; omega, by show 8 + (1 + 11) + 20 ≤ _; omega, hwsG, List.mem_cons_self, hw2 _ (List.mem_of_getElem? (i := 8) rfl), hw2 _ (List.mem_of_getElem? (i := 6) rfl), by decide, fun sig h => ?_, hts _ (hgd _ hlk).1⟩, hw2 _ (List.mem_of_getElem? (i := 9) rfl), hw2 _ (List.mem_of_getElem? (i := 10) rfl)⟩ ⟨zs_blind, ?_, fun U hU hW => ⟨rfl, ?_⟩⟩ rfl rfl (by obtain ⟨lv, z1, _⟩ := h4; exact z1.1) rfl ?_ hd ⟨hrc, hrs⟩) ?_
  · have : (parseMethodDescriptor "()I").map (fun d => d.parameters.length) = some 0 := by decide +kernel
    rw [h] at this
    exact (Option.some.inj this).symm
  · obtain ⟨cell, z1, z2, z3, -⟩ := y2
    exact ⟨cell, z1, z2, z3⟩
  · rw [hU]
    exact zs_K_p.1 s U H hK0 hW
  · refine lv_room ?_
    rw [Bool.and_eq_true] at hS
    rw [zv_sum1 (zv_st_cat hS.2 h6), zv_st_len h6]
    exact Nat.le_of_ble_eq_true hS.1
  · exact (hg _ _ _ _ _).mp k H locs ls _ h1 h2 h3 h4 ⟨_, _, rfl, ⟨_, rfl, Int32.toInt_ofNat_of_lt (by omega)⟩, h6⟩
end ZVSTRN
/-! The place of a letter among the letters. -/
theorem zd37_0 : decode zxm37.2.1 0 = .ok (.iload_n 0, 1) := by decide +kernel
theorem zd37_1 : decode zxm37.2.1 1 = .ok (.iload_n 1, 1) := by decide +kernel
theorem zd37_2 : decode zxm37.2.1 2 = .ok (.if_icmp .gt 7, 3) := by decide +kernel
theorem zd37_5 : decode zxm37.2.1 5 = .ok (.iload_n 0, 1) := by decide +kernel
theorem zd37_6 : decode zxm37.2.1 6 = .ok (.goto 4, 3) := by decide +kernel
theorem zd37_9 : decode zxm37.2.1 9 = .ok (.iload_n 1, 1) := by decide +kernel
theorem zd37_10 : decode zxm37.2.1 10 = .ok (.ireturn, 1) := by decide +kernel
theorem zd50_0 : decode zxm50.2.1 0 = .ok (.aload_n 0, 1) := by decide +kernel
theorem zd50_1 : decode zxm50.2.1 1 = .ok (.iload_n 1, 1) := by decide +kernel
theorem zd50_2 : decode zxm50.2.1 2 = .ok (.iconst 0, 1) := by decide +kernel
theorem zd50_3 : decode zxm50.2.1 3 = .ok (.invokevirtual 633, 3) := by decide +kernel
theorem zd50_6 : decode zxm50.2.1 6 = .ok (.ireturn, 1) := by decide +kernel
theorem zd51_0 : decode zxm51.2.1 0 = .ok (.aload_n 0, 1) := by decide +kernel
theorem zd51_1 : decode zxm51.2.1 1 = .ok (.invokevirtual 492, 3) := by decide +kernel
theorem zd51_4 : decode zxm51.2.1 4 = .ok (.ifCond .eq 19, 3) := by decide +kernel
theorem zd51_7 : decode zxm51.2.1 7 = .ok (.aload_n 0, 1) := by decide +kernel
theorem zd51_8 : decode zxm51.2.1 8 = .ok (.getfield 9, 3) := by decide +kernel
theorem zd51_11 : decode zxm51.2.1 11 = .ok (.iload_n 1, 1) := by decide +kernel
theorem zd51_12 : decode zxm51.2.1 12 = .ok (.iload_n 2, 1) := by decide +kernel
theorem zd51_13 : decode zxm51.2.1 13 = .ok (.aload_n 0, 1) := by decide +kernel
theorem zd51_14 : decode zxm51.2.1 14 = .ok (.invokevirtual 505, 3) := by decide +kernel
theorem zd51_17 : decode zxm51.2.1 17 = .ok (.invokestatic 637, 3) := by decide +kernel
theorem zd51_20 : decode zxm51.2.1 20 = .ok (.goto 16, 3) := by decide +kernel
theorem zd51_36 : decode zxm51.2.1 36 = .ok (.ireturn, 1) := by decide +kernel
theorem zd52_0 : decode zxm52.2.1 0 = .ok (.getstatic 38, 3) := by decide +kernel
theorem zd52_3 : decode zxm52.2.1 3 = .ok (.ifCond .eq 14, 3) := by decide +kernel
theorem zd52_6 : decode zxm52.2.1 6 = .ok (.aload_n 0, 1) := by decide +kernel
theorem zd52_7 : decode zxm52.2.1 7 = .ok (.getfield 15, 3) := by decide +kernel
theorem zd52_10 : decode zxm52.2.1 10 = .ok (.ifCond .ne 7, 3) := by decide +kernel
theorem zd52_13 : decode zxm52.2.1 13 = .ok (.iconst 1, 1) := by decide +kernel
theorem zd52_14 : decode zxm52.2.1 14 = .ok (.goto 4, 3) := by decide +kernel
theorem zd52_18 : decode zxm52.2.1 18 = .ok (.ireturn, 1) := by decide +kernel
theorem zd53_0 : decode zxm53.2.1 0 = .ok (.iload_n 1, 1) := by decide +kernel
theorem zd53_1 : decode zxm53.2.1 1 = .ok (.invokestatic 88, 3) := by decide +kernel
theorem zd53_4 : decode zxm53.2.1 4 = .ok (.ifCond .ne 5, 3) := by decide +kernel
theorem zd53_7 : decode zxm53.2.1 7 = .ok (.iconst (-1), 1) := by decide +kernel
theorem zd53_8 : decode zxm53.2.1 8 = .ok (.ireturn, 1) := by decide +kernel
theorem zd53_9 : decode zxm53.2.1 9 = .ok (.iload_n 2, 1) := by decide +kernel
theorem zd53_10 : decode zxm53.2.1 10 = .ok (.iconst 0, 1) := by decide +kernel
theorem zd53_11 : decode zxm53.2.1 11 = .ok (.invokestatic 92, 3) := by decide +kernel
theorem zd53_14 : decode zxm53.2.1 14 = .ok (.istore_n 2, 1) := by decide +kernel
theorem zd53_15 : decode zxm53.2.1 15 = .ok (.iload_n 3, 1) := by decide +kernel
theorem zd53_16 : decode zxm53.2.1 16 = .ok (.aload_n 0, 1) := by decide +kernel
theorem zd53_17 : decode zxm53.2.1 17 = .ok (.arraylength, 1) := by decide +kernel
theorem zd53_18 : decode zxm53.2.1 18 = .ok (.invokestatic 38, 3) := by decide +kernel
theorem zd53_21 : decode zxm53.2.1 21 = .ok (.istore_n 3, 1) := by decide +kernel
theorem zd53_22 : decode zxm53.2.1 22 = .ok (.iload_n 2, 1) := by decide +kernel
theorem zd53_23 : decode zxm53.2.1 23 = .ok (.iload_n 3, 1) := by decide +kernel
theorem zd53_24 : decode zxm53.2.1 24 = .ok (.if_icmp .lt 5, 3) := by decide +kernel
theorem zd53_29 : decode zxm53.2.1 29 = .ok (.aload_n 0, 1) := by decide +kernel
theorem zd53_30 : decode zxm53.2.1 30 = .ok (.iload_n 1, 1) := by decide +kernel
theorem zd53_31 : decode zxm53.2.1 31 = .ok (.iload_n 2, 1) := by decide +kernel
theorem zd53_32 : decode zxm53.2.1 32 = .ok (.iload_n 3, 1) := by decide +kernel
theorem zd53_33 : decode zxm53.2.1 33 = .ok (.invokestatic 95, 3) := by decide +kernel
theorem zd53_36 : decode zxm53.2.1 36 = .ok (.ireturn, 1) := by decide +kernel
theorem zd54_0 : decode zxm54.2.1 0 = .ok (.iload_n 0, 1) := by decide +kernel
theorem zd54_1 : decode zxm54.2.1 1 = .ok (.ifCond .lt 14, 3) := by decide +kernel
theorem zd54_4 : decode zxm54.2.1 4 = .ok (.iload_n 0, 1) := by decide +kernel
theorem zd54_5 : decode zxm54.2.1 5 = .ok (.sipush 255, 3) := by decide +kernel
theorem zd54_8 : decode zxm54.2.1 8 = .ok (.if_icmp .gt 7, 3) := by decide +kernel
theorem zd54_11 : decode zxm54.2.1 11 = .ok (.iconst 1, 1) := by decide +kernel
theorem zd54_12 : decode zxm54.2.1 12 = .ok (.goto 4, 3) := by decide +kernel
theorem zd54_15 : decode zxm54.2.1 15 = .ok (.iconst 0, 1) := by decide +kernel
theorem zd54_16 : decode zxm54.2.1 16 = .ok (.ireturn, 1) := by decide +kernel
theorem zd55_0 : decode zxm55.2.1 0 = .ok (.iload_n 0, 1) := by decide +kernel
theorem zd55_1 : decode zxm55.2.1 1 = .ok (.iload_n 1, 1) := by decide +kernel
theorem zd55_2 : decode zxm55.2.1 2 = .ok (.if_icmp .lt 7, 3) := by decide +kernel
theorem zd55_5 : decode zxm55.2.1 5 = .ok (.iload_n 0, 1) := by decide +kernel
theorem zd55_6 : decode zxm55.2.1 6 = .ok (.goto 4, 3) := by decide +kernel
theorem zd55_9 : decode zxm55.2.1 9 = .ok (.iload_n 1, 1) := by decide +kernel
theorem zd55_10 : decode zxm55.2.1 10 = .ok (.ireturn, 1) := by decide +kernel
theorem zd56_0 : decode zxm56.2.1 0 = .ok (.iload_n 1, 1) := by decide +kernel
theorem zd56_1 : decode zxm56.2.1 1 = .ok (.i2b, 1) := by decide +kernel
theorem zd56_2 : decode zxm56.2.1 2 = .ok (.istore 4, 2) := by decide +kernel
theorem zd56_4 : decode zxm56.2.1 4 = .ok (.iload_n 2, 1) := by decide +kernel
theorem zd56_5 : decode zxm56.2.1 5 = .ok (.istore 5, 2) := by decide +kernel
theorem zd56_7 : decode zxm56.2.1 7 = .ok (.iload 5, 2) := by decide +kernel
theorem zd56_9 : decode zxm56.2.1 9 = .ok (.iload_n 3, 1) := by decide +kernel
theorem zd56_10 : decode zxm56.2.1 10 = .ok (.if_icmp .ge 21, 3) := by decide +kernel
theorem zd56_13 : decode zxm56.2.1 13 = .ok (.aload_n 0, 1) := by decide +kernel
theorem zd56_14 : decode zxm56.2.1 14 = .ok (.iload 5, 2) := by decide +kernel
theorem zd56_16 : decode zxm56.2.1 16 = .ok (.baload, 1) := by decide +kernel
theorem zd56_17 : decode zxm56.2.1 17 = .ok (.iload 4, 2) := by decide +kernel
theorem zd56_19 : decode zxm56.2.1 19 = .ok (.if_icmp .ne 6, 3) := by decide +kernel
theorem zd56_22 : decode zxm56.2.1 22 = .ok (.iload 5, 2) := by decide +kernel
theorem zd56_24 : decode zxm56.2.1 24 = .ok (.ireturn, 1) := by decide +kernel
theorem zd56_25 : decode zxm56.2.1 25 = .ok (.iinc 5 1, 3) := by decide +kernel
theorem zd56_28 : decode zxm56.2.1 28 = .ok (.goto (-21), 3) := by decide +kernel
theorem zd56_31 : decode zxm56.2.1 31 = .ok (.iconst (-1), 1) := by decide +kernel
theorem zd56_32 : decode zxm56.2.1 32 = .ok (.ireturn, 1) := by decide +kernel
set_option maxRecDepth 20000 in
theorem zl50 : z_lk z_TB "StarTales$LawReader" 0 103 zxm50.1 zxm50.2.1 zxm50.2.2.1 zxm50.2.2.2.1 zxm50.2.2.2.2.1 := ⟨zxh50.1, zxh50.2.1, zxh50.2.2.1, zxh50.2.2.2, (List.mem_filter.mpr ⟨List.mem_of_getElem? (i := 748) (by decide +kernel), rfl⟩), (List.mem_filter.mpr ⟨List.mem_of_getElem? (i := 749) (by decide +kernel), rfl⟩), (List.mem_filter.mpr ⟨List.mem_of_getElem? (i := 750) (by decide +kernel), rfl⟩)⟩
set_option maxRecDepth 20000 in
theorem zl51 : z_lk z_TB "java/lang/String" 0 633 zxm51.1 zxm51.2.1 zxm51.2.2.1 zxm51.2.2.2.1 zxm51.2.2.2.2.1 := ⟨zxh51.1, zxh51.2.1, zxh51.2.2.1, zxh51.2.2.2, (List.mem_filter.mpr ⟨List.mem_of_getElem? (i := 752) (by decide +kernel), rfl⟩), (List.mem_filter.mpr ⟨List.mem_of_getElem? (i := 753) (by decide +kernel), rfl⟩), (List.mem_filter.mpr ⟨List.mem_of_getElem? (i := 754) (by decide +kernel), rfl⟩)⟩
set_option maxRecDepth 20000 in
theorem zl52 : z_lk z_TB "java/lang/String" 0 492 zxm52.1 zxm52.2.1 zxm52.2.2.1 zxm52.2.2.2.1 zxm52.2.2.2.2.1 := ⟨zxh52.1, zxh52.2.1, zxh52.2.2.1, zxh52.2.2.2, (List.mem_filter.mpr ⟨List.mem_of_getElem? (i := 756) (by decide +kernel), rfl⟩), (List.mem_filter.mpr ⟨List.mem_of_getElem? (i := 757) (by decide +kernel), rfl⟩), (List.mem_filter.mpr ⟨List.mem_of_getElem? (i := 758) (by decide +kernel), rfl⟩)⟩
set_option maxRecDepth 20000 in
theorem zl_st : Cond.fieldLink "java/lang/String" 38 "java/lang/String" "COMPACT_STRINGS" "Z" ∈ z_TB := (List.mem_filter.mpr ⟨List.mem_of_getElem? (i := 262) (by decide +kernel), rfl⟩)
set_option maxRecDepth 20000 in
theorem zl_co : Cond.fieldLink "java/lang/String" 15 "java/lang/String" "coder" "B" ∈ z_TB := (List.mem_filter.mpr ⟨List.mem_of_getElem? (i := 2101) (by decide +kernel), rfl⟩)
set_option maxRecDepth 20000 in
theorem zl_va : Cond.fieldLink "java/lang/String" 9 "java/lang/String" "value" "[B" ∈ z_TB := (List.mem_filter.mpr ⟨List.mem_of_getElem? (i := 2100) (by decide +kernel), rfl⟩)
set_option maxRecDepth 20000 in
theorem zl_le : Cond.methodLink "java/lang/String" 505 zs_yL ∈ z_TB := (List.mem_filter.mpr ⟨List.mem_of_getElem? (i := 760) (by decide +kernel), rfl⟩)
def zs_find (b : Int) : Nat → Nat → Int
  | 0, _ => -1
  | m + 1, k => if (zs_by k).toInt = b then (k : Int) else zs_find b m (k + 1)
def zi_letter (c : Int) : Int := if 0 ≤ c ∧ c ≤ 255 then zs_find (zi_by c) 13 0 else -1
section ZVINDEX
variable {c : Int}
theorem kzh55s {y : zNL} (hy : zv_wf y = true) {x z : Int} : zv_OK z_TB z_cl z_KX y zxm55 (0, 0) (fun va F G => va = [.inl x, .inl z]) (fun va F G r F' G' => F' = F ∧ G' = G ∧ ∃ v, r = some v ∧ x ≤ v ∧ z ≤ v ∧ (v = x ∨ v = z)) := zv_meth (K := (z_KF16, z_KC16, z_KL16, z_KT16, [], [], [], none)) (FT := z_FT) (MT := z_MT) (n := 2) zxp55 (z_ks16 _ (fun _ h => List.mem_cons_of_mem _ h) _ _ _ _ (fun j r h _ => by cases h)) (fun _ _ => zs_KX_p) hy (fun va F G h => by obtain ⟨rfl, _⟩ := h; rfl) (fun va F G h => by obtain ⟨rfl, _⟩ := h; rfl) rfl fun good va F G hB hret hvret hP => by
  subst hP
  refine zv_ild hB zd55_0 rfl rfl ?_
  refine zv_ild hB zd55_1 rfl rfl ?_
  refine zv_clt hB zd55_2 rfl (fun h2 => ?_) (fun h2 => ?_)
  · refine zv_ild hB zd55_9 rfl rfl ?_
    exact hret _ _ _ _ _ zd55_10 trivial ⟨rfl, rfl, _, rfl, by omega, by omega, by omega⟩
  · refine zv_ild hB zd55_5 rfl rfl ?_
    refine zv_goto hB zd55_6 rfl ?_
    exact hret _ _ _ _ _ zd55_10 trivial ⟨rfl, rfl, _, rfl, by omega, by omega, by omega⟩
theorem kzh37s {y : zNL} (hy : zv_wf y = true) {x z : Int} : zv_OK z_TB z_cl z_KX y zxm37 (0, 0) (fun va F G => va = [.inl x, .inl z]) (fun va F G r F' G' => F' = F ∧ G' = G ∧ ∃ v, r = some v ∧ v ≤ x ∧ v ≤ z ∧ (v = x ∨ v = z)) := zv_meth (K := (z_KF16, z_KC16, z_KL16, z_KT16, [], [], [], none)) (FT := z_FT) (MT := z_MT) (n := 2) zxp37 (z_ks16 _ (fun _ h => List.mem_cons_of_mem _ h) _ _ _ _ (fun j r h _ => by cases h)) (fun _ _ => zs_KX_p) hy (fun va F G h => by obtain ⟨rfl, _⟩ := h; rfl) (fun va F G h => by obtain ⟨rfl, _⟩ := h; rfl) rfl fun good va F G hB hret hvret hP => by
  subst hP
  refine zv_ild hB zd37_0 rfl rfl ?_
  refine zv_ild hB zd37_1 rfl rfl ?_
  refine zv_cgt hB zd37_2 rfl (fun h2 => ?_) (fun h2 => ?_)
  · refine zv_ild hB zd37_9 rfl rfl ?_
    exact hret _ _ _ _ _ zd37_10 trivial ⟨rfl, rfl, _, rfl, by omega, by omega, by omega⟩
  · refine zv_ild hB zd37_5 rfl rfl ?_
    refine zv_goto hB zd37_6 rfl ?_
    exact hret _ _ _ _ _ zd37_10 trivial ⟨rfl, rfl, _, rfl, by omega, by omega, by omega⟩
theorem kzh54 {y : zNL} (hy : zv_wf y = true)  : zv_OK z_TB z_cl z_KX y zxm54 (0, 0) (fun va F G => va = [.inl c]) (fun va F G r F' G' => F' = F ∧ G' = G ∧ r = some (if 0 ≤ c ∧ c ≤ 255 then (1 : Int) else 0)) := zv_meth (K := (z_KF18, z_KC18, z_KL18, z_KT18, [], [], [], none)) (FT := z_FT) (MT := z_MT) (n := 1) zxp54 (z_ks18 _ (fun _ h => List.mem_cons_of_mem _ h) _ _ _ _ (fun j r h _ => by cases h)) (fun _ _ => zs_KX_p) hy (fun va F G h => by obtain ⟨rfl, _⟩ := h; rfl) (fun va F G h => by obtain ⟨rfl, _⟩ := h; rfl) rfl fun good va F G hB hret hvret hP => by
  subst hP
  refine zv_ild hB zd54_0 rfl rfl ?_
  refine zv_zlt hB zd54_1 rfl (fun h1 => ?_) (fun h1 => ?_)
  · refine zv_con hB zd54_15 rfl ?_
    refine hret _ _ _ _ _ zd54_16 (by constructor <;> decide) ⟨rfl, rfl, ?_⟩
    first | rw [if_pos (by omega)] | rw [if_neg (by omega)]
  · refine zv_ild hB zd54_4 rfl rfl ?_
    refine zv_con hB zd54_5 rfl ?_
    refine zv_cgt hB zd54_8 rfl (fun h8 => ?_) (fun h8 => ?_)
    · refine zv_con hB zd54_15 rfl ?_
      refine hret _ _ _ _ _ zd54_16 (by constructor <;> decide) ⟨rfl, rfl, ?_⟩
      first | rw [if_pos (by omega)] | rw [if_neg (by omega)]
    · refine zv_con hB zd54_11 rfl ?_
      refine zv_goto hB zd54_12 rfl ?_
      refine hret _ _ _ _ _ zd54_16 (by constructor <;> decide) ⟨rfl, rfl, ?_⟩
      first | rw [if_pos (by omega)] | rw [if_neg (by omega)]
theorem kzh56 {y : zNL} (hy : zv_wf y = true)  : zv_OK z_TB z_cl z_KX y zxm56 (0, 0) (fun va F G => va = [.inr 903, .inl c, .inl 0, .inl 13]) (fun va F G r F' G' => F' = F ∧ G' = G ∧ r = some (zs_find (zi_by c) 13 0)) := zv_meth (K := (z_KF18, z_KC18, z_KL18, z_KT18, [], [], [], none)) (FT := z_FT) (MT := z_MT) (n := 4) zxp56 (z_ks18 _ (fun _ h => List.mem_cons_of_mem _ h) _ _ _ _ (fun j r h _ => by cases h)) (fun _ _ => zs_KX_p) hy (fun va F G h => by obtain ⟨rfl, _⟩ := h; rfl) (fun va F G h => by obtain ⟨rfl, _⟩ := h; rfl) rfl fun good va F G hB hret hvret hP => by
  subst hP
  have key : ∀ (m k : Nat), m + k = 13 → zs_find (zi_by c) m k = zs_find (zi_by c) 13 0 → good 7 [.inr 903, .inl c, .inl 0, .inl 13, .inl (zi_by c), .inl k] [] F G := by
    intro m
    induction m with
    | zero =>
      intro k c1 c2
      refine zv_ild hB zd56_7 rfl rfl ?_
      refine zv_ild hB zd56_9 rfl rfl ?_
      refine zv_cge hB zd56_10 rfl (fun h10 => ?_) (fun h10 => ?_)
      · refine zv_con hB zd56_31 rfl ?_
        exact hret _ _ _ _ _ zd56_32 trivial ⟨rfl, rfl, by rw [← c2]; rfl⟩
      · exfalso; omega
    | succ m ih =>
      intro k c1 c2
      refine zv_ild hB zd56_7 rfl rfl ?_
      refine zv_ild hB zd56_9 rfl rfl ?_
      refine zv_cge hB zd56_10 rfl (fun h10 => ?_) (fun h10 => ?_)
      · exfalso; omega
      · refine zv_ald hB zd56_13 rfl rfl rfl ?_
        refine zv_ild hB zd56_14 rfl rfl ?_
        refine zkt_bald hB (by omega) (by show (k : Int) < ((13 : Nat) : Int); omega) zd56_16 ?_
        refine zv_ild hB zd56_17 rfl rfl ?_
        refine zv_cne hB zd56_19 rfl (fun h19 => ?_) (fun h19 => ?_)
        · refine zv_iinc hB zd56_25 rfl rfl (by omega) (by omega) ?_
          refine zv_goto hB zd56_28 rfl ?_
          refine ih (k + 1) (by omega) ?_
          rw [← c2]
          show _ = (if (zs_by k).toInt = zi_by c then (k : Int) else zs_find (zi_by c) m (k + 1))
          rw [if_neg (by rw [Int.toNat_natCast] at h19; exact h19)]
        · refine zv_ild hB zd56_22 rfl rfl ?_
          refine hret _ _ _ _ _ zd56_24 trivial ⟨rfl, rfl, ?_⟩
          rw [← c2]
          show _ = some (if (zs_by k).toInt = zi_by c then (k : Int) else zs_find (zi_by c) m (k + 1))
          rw [if_pos (by rw [Int.toNat_natCast] at h19; exact h19)]
  refine zv_ild hB zd56_0 rfl rfl ?_
  refine zv_i2b hB zd56_1 ?_
  refine zv_ist hB zd56_2 rfl rfl rfl ?_
  refine zv_ild hB zd56_4 rfl rfl ?_
  refine zv_ist hB zd56_5 rfl rfl rfl ?_
  exact key 13 0 rfl rfl
theorem kzh53 {y : zNL} (hy : zv_wf y = true)  : zv_OK z_TB z_cl z_KX y zxm53 (1, 60) (fun va F G => va = [.inr 903, .inl c, .inl 0, .inl 13]) (fun va F G r F' G' => F' = F ∧ G' = G ∧ r = some (zi_letter c)) := zv_meth (K := (z_KF18, z_KC18, z_KL18, z_KT18, [], [], [], none)) (FT := z_FT) (MT := z_MT) (n := 4) zxp53 (z_ks18 _ (fun _ h => List.mem_cons_of_mem _ h) _ _ _ _ (fun j r h _ => by cases h)) (fun _ _ => zs_KX_p) hy (fun va F G h => by obtain ⟨rfl, _⟩ := h; rfl) (fun va F G h => by obtain ⟨rfl, _⟩ := h; rfl) rfl fun good va F G hB hret hvret hP => by
  subst hP
  refine zv_ild hB zd53_0 rfl rfl ?_
  refine zv_it1 hB (kzh54 hy) zd53_1 zxt54 rfl rfl (fun r1 F1 G1 hq1 => ?_)
  obtain ⟨rfl, rfl, rfl⟩ := hq1
  by_cases hc : 0 ≤ c ∧ c ≤ 255
  rotate_left
  · rw [if_neg hc]
    refine zv_zne hB zd53_4 rfl (fun h4 => ?_) (fun h4 => ?_)
    · exfalso; omega
    · refine zv_con hB zd53_7 rfl ?_
      exact hret _ _ _ _ _ zd53_8 trivial ⟨rfl, rfl, by unfold zi_letter; rw [if_neg hc]⟩
  · rw [if_pos hc]
    refine zv_zne hB zd53_4 rfl (fun h4 => ?_) (fun h4 => ?_)
    · refine zv_ild hB zd53_9 rfl rfl ?_
      refine zv_con hB zd53_10 rfl ?_
      refine zv_it2 hB (kzh55s hy) zd53_11 zxt55 rfl rfl (fun r11 F11 G11 hq11 => ?_)
      obtain ⟨rfl, rfl, v, rfl, v1, v2, v3⟩ := hq11
      refine zv_ist hB zd53_14 rfl rfl rfl ?_
      refine zv_ild hB zd53_15 rfl rfl ?_
      refine zv_ald hB zd53_16 rfl rfl rfl ?_
      refine zkt_len hB (by omega) zd53_17 ?_
      refine zv_it2 hB (kzh37s hy) zd53_18 zxt37 rfl rfl (fun r18 F18 G18 hq18 => ?_)
      obtain ⟨rfl, rfl, u, rfl, u1, u2, u3⟩ := hq18
      refine zv_ist hB zd53_21 rfl rfl rfl ?_
      refine zv_ild hB zd53_22 rfl rfl ?_
      refine zv_ild hB zd53_23 rfl rfl ?_
      refine zv_clt hB zd53_24 rfl (fun h24 => ?_) (fun h24 => ?_)
      · refine zv_ald hB zd53_29 rfl rfl rfl ?_
        refine zv_ild hB zd53_30 rfl rfl ?_
        refine zv_ild hB zd53_31 rfl rfl ?_
        refine zv_ild hB zd53_32 rfl rfl ?_
        refine zv_it4 hB (kzh56 hy (c := c)) zd53_33 zxt56 rfl (by rw [show v = 0 by omega, show u = 13 by omega]) (fun r33 F33 G33 hq33 => ?_)
        obtain ⟨rfl, rfl, rfl⟩ := hq33
        exact hret _ _ _ _ _ zd53_36 trivial ⟨rfl, rfl, by unfold zi_letter; rw [if_pos hc]⟩
      · exfalso; omega
    · exfalso; omega
theorem kzh52 {y : zNL} (hy : zv_wf y = true)  : zv_OK z_TB z_cl z_KX y zxm52 (0, 0) (fun va F G => va = [.inr 902]) (fun va F G r F' G' => F' = F ∧ G' = G ∧ r = some 1) := zv_meth (K := (z_KF17, z_KC17, z_KL17, z_KT17, [], [], [], none)) (FT := z_FT) (MT := z_MT) (n := 1) zxp52 (z_ks17 _ (fun _ h => List.mem_cons_of_mem _ h) _ _ _ _ (fun j r h _ => by cases h)) (fun _ _ => zs_KX_p) hy (fun va F G h => by obtain ⟨rfl, _⟩ := h; rfl) (fun va F G h => by obtain ⟨rfl, _⟩ := h; rfl) rfl fun good va F G hB hret hvret hP => by
  subst hP
  refine zkt_stat hB zl_st zd52_0 ?_
  refine zv_zeq hB zd52_3 rfl (fun h3 => ?_) (fun h3 => ?_)
  · exfalso; omega
  · refine zv_ald hB zd52_6 rfl rfl rfl ?_
    refine zkt_coder hB zl_co zd52_7 ?_
    refine zv_zne hB zd52_10 rfl (fun h10 => ?_) (fun h10 => ?_)
    · exfalso; omega
    · refine zv_con hB zd52_13 rfl ?_
      refine zv_goto hB zd52_14 rfl ?_
      exact hret _ _ _ _ _ zd52_18 (by constructor <;> decide) ⟨rfl, rfl, rfl⟩
theorem kzh51 {y : zNL} (hy : zv_wf y = true)  : zv_OK z_TB z_cl z_KX y zxm51 (2, 120) (fun va F G => va = [.inr 902, .inl c, .inl 0]) (fun va F G r F' G' => F' = F ∧ G' = G ∧ r = some (zi_letter c)) := zv_meth (K := (z_KF17, z_KC17, z_KL17, z_KT17, [], [], [], none)) (FT := z_FT) (MT := z_MT) (n := 3) zxp51 (z_ks17 _ (fun _ h => List.mem_cons_of_mem _ h) _ _ _ _ (fun j r h _ => by cases h)) (fun _ _ => zs_KX_p) hy (fun va F G h => by obtain ⟨rfl, _⟩ := h; rfl) (fun va F G h => by obtain ⟨rfl, _⟩ := h; rfl) rfl fun good va F G hB hret hvret hP => by
  subst hP
  refine zv_ald hB zd51_0 rfl rfl rfl ?_
  refine zkt_inv (va := []) hB (kzh52 hy) zl52 rfl zd51_1 rfl rfl (by decide) (by decide) rfl (fun r1 F1 G1 hq1 => ?_)
  obtain ⟨rfl, rfl, rfl⟩ := hq1
  refine zv_zeq hB zd51_4 rfl (fun h4 => ?_) (fun h4 => ?_)
  · exfalso; omega
  · refine zv_ald hB zd51_7 rfl rfl rfl ?_
    refine zkt_value hB zl_va zd51_8 ?_
    refine zv_ild hB zd51_11 rfl rfl ?_
    refine zv_ild hB zd51_12 rfl rfl ?_
    refine zv_ald hB zd51_13 rfl rfl rfl ?_
    refine zkt_length hB zs_wt (by omega) zl_le zd51_14 rfl (by decide) (by decide) ?_
    refine zv_it4 hB (kzh53 hy (c := c)) zd51_17 zxt53 rfl rfl (fun r17 F17 G17 hq17 => ?_)
    obtain ⟨rfl, rfl, rfl⟩ := hq17
    refine zv_goto hB zd51_20 rfl ?_
    exact hret _ _ _ _ _ zd51_36 trivial ⟨rfl, rfl, rfl⟩
theorem kzh50 {y : zNL} (hy : zv_wf y = true)  : zv_OK z_TB z_cl z_KX y zxm50 (3, 180) (fun va F G => va = [.inr 902, .inl c]) (fun va F G r F' G' => F' = F ∧ G' = G ∧ r = some (zi_letter c)) := zv_meth (K := (z_KF17, z_KC17, z_KL17, z_KT17, [], [], [], none)) (FT := z_FT) (MT := z_MT) (n := 2) zxp50 (z_ks17 _ (fun _ h => List.mem_cons_of_mem _ h) _ _ _ _ (fun j r h _ => by cases h)) (fun _ _ => zs_KX_p) hy (fun va F G h => by obtain ⟨rfl, _⟩ := h; rfl) (fun va F G h => by obtain ⟨rfl, _⟩ := h; rfl) rfl fun good va F G hB hret hvret hP => by
  subst hP
  refine zv_ald hB zd50_0 rfl rfl rfl ?_
  refine zv_ild hB zd50_1 rfl rfl ?_
  refine zv_con hB zd50_2 rfl ?_
  refine zkt_inv (va := [.inl c, .inl 0]) hB (kzh51 hy) zl51 rfl zd50_3 rfl rfl (by decide) (by decide) rfl (fun r1 F1 G1 hq1 => ?_)
  obtain ⟨rfl, rfl, rfl⟩ := hq1
  exact hret _ _ _ _ _ zd50_6 trivial ⟨rfl, rfl, rfl⟩
end ZVINDEX
section ZVLET
variable {y : zNL} {mm : zM} {K : zK} {rm : Nat × Nat} {good : Nat → List zNV → List zNV → List zNV → List (Int → Int) → Prop}
variable {pc : Nat} {L S : List zNV} {F : List zNV} {G : List (Int → Int)}
theorem zv_letter (hB : zv_B z_cl z_FT z_KX z_TB z_MT y mm K rm good) (hy : zv_wf y = true) (hm : mm.1.cls = "StarTales$LawReader") (hS : (Nat.ble S.length 8 && S.all zv_n1) = true) {a : Int} (hd : decode mm.2.1 pc = .ok (.invokevirtual 103, 3)) (h1 : 6 ≤ rm.1) (h2 : 360 ≤ rm.2) (k : good (pc + 3) L (.inl (zi_letter a) :: S) F G) : good pc L (.inl a :: .inr 902 :: S) F G := by
  refine zkt_inv (va := [.inl a]) (S := S) hB (kzh50 hy) (by rw [hm]; exact zl50) rfl hd rfl hS (by show 3 + 1 ≤ _; omega) (by show 8 + (2 + 11) + 180 ≤ _; omega) rfl (fun r F' G' hq => ?_)
  obtain ⟨rfl, rfl, rfl⟩ := hq
  exact k
end ZVLET
