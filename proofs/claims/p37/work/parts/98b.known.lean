/-! The known calls, at this OB. -/
abbrev z_f : Int → Int → Int → Int → Int := (fun t _ _ _ => zq_cnt t 24)
theorem zu_lk {j k : Nat} {mm : zM} (h : (j, 0, k) ∈ k_LK z_eL.1) (ht : z_MT[k]? = some mm) : z_lk z_TB "StarTalesLaw" 0 j mm.1 mm.2.1 mm.2.2.1 mm.2.2.2.1 mm.2.2.2.2.1 := by
  obtain ⟨m2, h1, h2, -⟩ := ((z_kSL z_TB (fun _ h => h)).2.2.1 (j, 0, k) h).2.2 (Nat.zero_le 4)
  rw [ht] at h1
  cases h1
  exact h2
theorem zxHw0 : zb_wf z_TYs z_cl zyX [129, 130, 131, 132, 133, 134, 135] [.inl 0, .inr (0, 0, 0), .inr (1, 1, 1), .inr (1, 1, 2), .inr (1, 1, 3), .inr (1, 1, 4), .inr (1, 1, 5)] = true := by decide +kernel
theorem zxHa0 : zu_lst zyX [(0, 15), (1, 10)] 129 = [(.inl 0, 20)] := by decide +kernel
theorem zxHb0 : zu_lst zyX [(0, 15), (1, 10)] 244 = [(.inl 0, 30)] := by decide +kernel
theorem zxH0 {l : Launch} {OB : Nat → Nat} {D : va_G} {DA : Nat → ClassId} {sz : Nat} {xs : Nat → Int32} {i : Nat} (hpr : zu_PRO z_f xs OB i) : zu_hand l OB D DA z_cl z_FT z_TYs z_PH sz z_KX z_TB "StarTalesLaw" code xs i (z_HC.getD 0 (0, (0, 0, 0), zxgh_star_x, [], false)) := ⟨13, zxm14.1, zxm14.2.1, zxm14.2.2.2.1, zqd_225, zu_lk (k := 14) (List.mem_of_getElem? (i := 2) rfl) zxt14, ⟨_, rfl, rfl⟩, rfl, zu_OKp (mm := zxm14) (RC := [.inl 0, .inr (0, 0, 0), .inr (1, 1, 1), .inr (1, 1, 2), .inr (1, 1, 3), .inr (1, 1, 4), .inr (1, 1, 5)]) (RF := [(0, 16777215)]) (RG := [(24, ((-23), 47)), (24, (0, 2147483647)), (24, (0, 9)), (24, ((-3), 3)), (24, ((-3), 3))]) (AR := [.inl 0, .inr (-2147483648, 2147483647), .inr (-2147483648, 2147483647), .inr (-2147483648, 2147483647), .inr (-2147483648, 2147483647)]) (RFo := [(0, some (0, 16777215))]) (UP := zs_UX) (CP := []) (RR := some (some (0, 1))) (fl := 15) (t0 := 129) (t1 := 244) (ph := 4) (NMS := [(0, 15), (1, 10)]) zxHw0 (by decide +kernel) rfl (zu_rc0_ok (by decide +kernel)) (by decide) (by decide +kernel) (by decide +kernel) (by decide +kernel) (by decide +kernel) (by decide +kernel) rfl (zu_phl rfl (by decide +kernel)) (by
  intro va F G hva hF hG hrg he hpx
  obtain ⟨_, rfl, x1, _, rfl, xa1, xb1, x2, _, rfl, xa2, xb2, x3, _, rfl, xa3, xb3, x4, _, rfl, xa4, xb4, rfl⟩ := hva
  obtain ⟨A, vals, hst, hpx⟩ := hpx
  have e1 : x1 = (xs (i + 1)).toInt := by
    have h8 := hpx 1 1 rfl (by decide)
    rw [List.getElem?_toArray] at h8
    have h9 := zu_px hst h8
    exact Sum.inl.inj (Option.some.inj h9)
  have e2 : x2 = (xs (i + 2)).toInt := by
    have h8 := hpx 2 2 rfl (by decide)
    rw [List.getElem?_toArray] at h8
    have h9 := zu_px hst h8
    exact Sum.inl.inj (Option.some.inj h9)
  have e3 : x3 = (xs (i + 3)).toInt := by
    have h8 := hpx 3 3 rfl (by decide)
    rw [List.getElem?_toArray] at h8
    have h9 := zu_px hst h8
    exact Sum.inl.inj (Option.some.inj h9)
  have e4 : x4 = (xs (i + 4)).toInt := by
    have h8 := hpx 4 4 rfl (by decide)
    rw [List.getElem?_toArray] at h8
    have h9 := zu_px hst h8
    exact Sum.inl.inj (Option.some.inj h9)
  subst e1
  subst e2
  subst e3
  subst e4
  rw [zxHa0] at he
  obtain ⟨p30, p31, p35, p36, p40⟩ := hpr
  obtain ⟨t, _, rfl, t1, t2, rfl⟩ := hF
  obtain ⟨co, _, rfl, _, ro, _, rfl, _, br, _, rfl, _, wc, _, rfl, _, wr, _, rfl, _, rfl⟩ := hG
  have h20 : t = zu_i OB 20 := Option.some.inj (show some t = some (Int32.ofNat (OB 20)).toInt from he _ (List.mem_of_getElem? (i := 0) rfl))
  have t1 : 0 ≤ t := t1
  have t2 : t ≤ 16777215 := t2
  refine ⟨_, _, zsy14 (t := t) (i := (xs (i + 1)).toInt) (c := (xs (i + 2)).toInt) (r := (xs (i + 3)).toInt) (b := (xs (i + 4)).toInt) (co := co) (ro := ro) (br := br) (wc := wc) (wr := wr), ⟨rfl, rfl, rfl⟩, fun r F' G' hq => ?_⟩
  obtain ⟨hr, rfl, co', ro', br', wc', wr', rfl, u0, u1, u2, u3, u4⟩ := hq
  rw [zxHb0]
  refine ⟨List.forall_mem_cons.mpr ⟨fun x h => (by cases h; exact zs_star_in t1 t2), fun _ h => absurd h List.not_mem_nil⟩, ?_, (by rcases hr with rfl | rfl; exact ⟨0, rfl, by decide, by decide⟩; exact ⟨1, rfl, by decide, by decide⟩), List.forall_mem_cons.mpr ⟨(show some (zs_star t ((xs (i + 1)).toInt) ((xs (i + 2)).toInt) ((xs (i + 3)).toInt) ((xs (i + 4)).toInt)) = some (zu_i OB 30) by rw [p30, h20]), fun _ h => absurd h List.not_mem_nil⟩, fun _ _ h => (by cases h)⟩
  · intro q hq g g' hg hg' i i0 i1
    rcases List.mem_cons.mp hq with rfl | hq
    · cases hg; cases hg'; exact Or.inl (u0 i)
    rcases List.mem_cons.mp hq with rfl | hq
    · cases hg; cases hg'; exact Or.inl (u1 i)
    rcases List.mem_cons.mp hq with rfl | hq
    · cases hg; cases hg'; exact Or.inl (u2 i)
    rcases List.mem_cons.mp hq with rfl | hq
    · cases hg; cases hg'; exact Or.inl (u3 i)
    rcases List.mem_cons.mp hq with rfl | hq
    · cases hg; cases hg'; exact Or.inl (u4 i)
    cases hq)⟩
theorem zxHw1 : zb_wf z_TYs z_cl zyT [199, 200, 201, 202] [.inl 0, .inr (0, 12, 0), .inr (0, 12, 1), .inr (0, 12, 2)] = true := by decide +kernel
theorem zxHa1 : zu_lst zyT zu_NMm 199 = [(.inr (0, 126), 20), (.inr (2, 126), 21), (.inl 0, 22)] := by decide +kernel
theorem zxHb1 : zu_lst zyT zu_NMm 248 = [(.inr (0, 126), 30), (.inr (2, 126), 21), (.inl 0, 22)] := by decide +kernel
theorem zxH1 {l : Launch} {OB : Nat → Nat} {D : va_G} {DA : Nat → ClassId} {sz : Nat} {xs : Nat → Int32} {i : Nat} (hpr : zu_PRO z_f xs OB i) : zu_hand l OB D DA z_cl z_FT z_TYs z_PH sz z_KX z_TB "StarTalesLaw" code xs i (z_HC.getD 1 (0, (0, 0, 0), zxgh_star_m, [], false)) := ⟨17, zxm199.1, zxm199.2.1, zxm199.2.2.2.1, zqd_250, zu_lk (k := 199) (List.mem_of_getElem? (i := 3) rfl) zxt199, ⟨_, rfl, rfl⟩, rfl, zu_OKp (mm := zxm199) (RC := [.inl 0, .inr (0, 12, 0), .inr (0, 12, 1), .inr (0, 12, 2)]) (RF := [(0, 1)]) (RG := [(422, ((-2147483648), 2147483647)), (422, ((-2147483648), 2147483647)), (422, ((-2147483648), 2147483647))]) (AR := [.inl 0, .inr (-2147483648, 2147483647), .inr (-2147483648, 2147483647), .inr (-2147483648, 2147483647), .inr (-2147483648, 2147483647)]) (RFo := [(0, none)]) (UP := zs_UM) (CP := []) (RR := some (some (0, 1))) (fl := 16) (t0 := 199) (t1 := 248) (ph := 8) (NMS := zu_NMm) zxHw1 (by decide +kernel) rfl (zu_rc0_ok (by decide +kernel)) (by decide) (by decide +kernel) (by decide +kernel) (by decide +kernel) (by decide +kernel) (by decide +kernel) rfl (zu_phl rfl (by decide +kernel)) (by
  intro va F G hva hF hG hrg he hpx
  obtain ⟨_, rfl, x1, _, rfl, xa1, xb1, x2, _, rfl, xa2, xb2, x3, _, rfl, xa3, xb3, x4, _, rfl, xa4, xb4, rfl⟩ := hva
  obtain ⟨A, vals, hst, hpx⟩ := hpx
  have e1 : x1 = (xs (i + 1)).toInt := by
    have h8 := hpx 1 1 rfl (by decide)
    rw [List.getElem?_toArray] at h8
    have h9 := zu_px hst h8
    exact Sum.inl.inj (Option.some.inj h9)
  have e2 : x2 = (xs (i + 2)).toInt := by
    have h8 := hpx 2 2 rfl (by decide)
    rw [List.getElem?_toArray] at h8
    have h9 := zu_px hst h8
    exact Sum.inl.inj (Option.some.inj h9)
  have e3 : x3 = (xs (i + 3)).toInt := by
    have h8 := hpx 3 3 rfl (by decide)
    rw [List.getElem?_toArray] at h8
    have h9 := zu_px hst h8
    exact Sum.inl.inj (Option.some.inj h9)
  have e4 : x4 = (xs (i + 4)).toInt := by
    have h8 := hpx 4 4 rfl (by decide)
    rw [List.getElem?_toArray] at h8
    have h9 := zu_px hst h8
    exact Sum.inl.inj (Option.some.inj h9)
  subst e1
  subst e2
  subst e3
  subst e4
  rw [zxHa1] at he
  obtain ⟨p30, p31, p35, p36, p40⟩ := hpr
  obtain ⟨k, _, rfl, k1, k2, rfl⟩ := hF
  obtain ⟨nw, _, rfl, _, as, _, rfl, _, kp, _, rfl, _, rfl⟩ := hG
  have h20 : nw 126 = zu_i OB 20 := by
    obtain ⟨g, g1, g2⟩ := (show ∃ g, zn_l [nw, as, kp] 0 = some g ∧ g ((126 : Nat) : Int) = (Int32.ofNat (OB 20)).toInt from he _ (List.mem_of_getElem? (i := 0) rfl))
    cases g1
    exact g2
  have h21 : kp 126 = zu_i OB 21 := by
    obtain ⟨g, g1, g2⟩ := (show ∃ g, zn_l [nw, as, kp] 2 = some g ∧ g ((126 : Nat) : Int) = (Int32.ofNat (OB 21)).toInt from he _ (List.mem_of_getElem? (i := 1) rfl))
    cases g1
    exact g2
  have h22 : k = zu_i OB 22 := Option.some.inj (show some k = some (Int32.ofNat (OB 22)).toInt from he _ (List.mem_of_getElem? (i := 2) rfl))
  obtain ⟨gw, w1, w2, w3⟩ := zu_at_rg (q := (1, 0, 422, 0)) (k := 126) (w := (0, 16777215)) List.mem_cons_self (by decide) (by decide +kernel) hrg
  cases w1
  refine ⟨_, _, zsm199 (k := k) (i := (xs (i + 1)).toInt) (c := (xs (i + 2)).toInt) (r := (xs (i + 3)).toInt) (b := (xs (i + 4)).toInt) (nw := nw) (as := as) (kp := kp), ⟨rfl, rfl, rfl, w2, w3⟩, fun r F' G' hq => ?_⟩
  obtain ⟨hr, rfl, nw', rfl, hn, hu⟩ := hq
  rw [zxHb1]
  refine ⟨List.forall_mem_cons.mpr ⟨rfl, fun _ h => absurd h List.not_mem_nil⟩, ?_, (by rcases hr with rfl | rfl; exact ⟨0, rfl, by decide, by decide⟩; exact ⟨1, rfl, by decide, by decide⟩), List.forall_mem_cons.mpr ⟨⟨nw', rfl, (by show nw' 126 = _; rw [hn, h20]; exact p30.symm)⟩, List.forall_mem_cons.mpr ⟨he _ (List.mem_of_getElem? (i := 1) rfl), List.forall_mem_cons.mpr ⟨he _ (List.mem_of_getElem? (i := 2) rfl), fun _ h => absurd h List.not_mem_nil⟩⟩⟩, fun _ _ h => (by cases h)⟩
  · intro q hq g g' hg hg' i i0 i1
    rcases List.mem_cons.mp hq with rfl | hq
    · cases hg; cases hg'; exact Or.inl (hu i)
    rcases List.mem_cons.mp hq with rfl | hq
    · cases hg; cases hg'; exact Or.inl (Or.inl rfl)
    rcases List.mem_cons.mp hq with rfl | hq
    · cases hg; cases hg'; exact Or.inl (Or.inl rfl)
    cases hq)⟩
theorem zxHw2 : zb_wf z_TYs z_cl zyX [129, 130, 131, 132, 133, 134, 135] [.inl 0, .inr (0, 0, 0), .inr (1, 1, 1), .inr (1, 1, 2), .inr (1, 1, 3), .inr (1, 1, 4), .inr (1, 1, 5)] = true := by decide +kernel
theorem zxHa2 : zu_lst zyX [(0, 15), (1, 10)] 129 = [(.inl 0, 20)] := by decide +kernel
theorem zxHb2 : zu_lst zyX [(0, 15), (1, 10)] 129 = [(.inl 0, 20)] := by decide +kernel
theorem zxH2 {l : Launch} {OB : Nat → Nat} {D : va_G} {DA : Nat → ClassId} {sz : Nat} {xs : Nat → Int32} {i : Nat} (hpr : zu_PRO z_f xs OB i) : zu_hand l OB D DA z_cl z_FT z_TYs z_PH sz z_KX z_TB "StarTalesLaw" code xs i (z_HC.getD 2 (0, (0, 0, 0), zxgh_walk_x, [], false)) := ⟨18, zxm17.1, zxm17.2.1, zxm17.2.2.2.1, zqd_273, zu_lk (k := 17) (List.mem_of_getElem? (i := 4) rfl) zxt17, ⟨_, rfl, rfl⟩, rfl, zu_OKp (mm := zxm17) (RC := [.inl 0, .inr (0, 0, 0), .inr (1, 1, 1), .inr (1, 1, 2), .inr (1, 1, 3), .inr (1, 1, 4), .inr (1, 1, 5)]) (RF := [(0, 16777215)]) (RG := [(24, ((-23), 47)), (24, (0, 2147483647)), (24, (0, 9)), (24, ((-3), 3)), (24, ((-3), 3))]) (AR := [.inl 0, .inr (-2147483648, 2147483647), .inr (-2147483648, 2147483647), .inr (-2147483648, 2147483647)]) (RFo := [(0, none)]) (UP := zs_UX) (CP := []) (RR := some (some (0, 1))) (fl := 15) (t0 := 129) (t1 := 129) (ph := 0) (NMS := [(0, 15), (1, 10)]) zxHw2 (by decide +kernel) rfl (zu_rc0_ok (by decide +kernel)) (by decide) (by decide +kernel) (by decide +kernel) (by decide +kernel) (by decide +kernel) (by decide +kernel) rfl (zu_phl rfl (by decide +kernel)) (by
  intro va F G hva hF hG hrg he hpx
  obtain ⟨_, rfl, x1, _, rfl, xa1, xb1, x2, _, rfl, xa2, xb2, x3, _, rfl, xa3, xb3, rfl⟩ := hva
  obtain ⟨A, vals, hst, hpx⟩ := hpx
  have e1 : x1 = (xs (i + 1)).toInt := by
    have h8 := hpx 1 1 rfl (by decide)
    rw [List.getElem?_toArray] at h8
    have h9 := zu_px hst h8
    exact Sum.inl.inj (Option.some.inj h9)
  have e2 : x2 = (xs (i + 2)).toInt := by
    have h8 := hpx 2 2 rfl (by decide)
    rw [List.getElem?_toArray] at h8
    have h9 := zu_px hst h8
    exact Sum.inl.inj (Option.some.inj h9)
  have e3 : x3 = (xs (i + 3)).toInt := by
    have h8 := hpx 3 3 rfl (by decide)
    rw [List.getElem?_toArray] at h8
    have h9 := zu_px hst h8
    exact Sum.inl.inj (Option.some.inj h9)
  subst e1
  subst e2
  subst e3
  rw [zxHa2] at he
  obtain ⟨p30, p31, p35, p36, p40⟩ := hpr
  obtain ⟨t, _, rfl, t1, t2, rfl⟩ := hF
  obtain ⟨co, _, rfl, _, ro, _, rfl, _, br, _, rfl, _, wc, _, rfl, _, wr, _, rfl, _, rfl⟩ := hG
  have h20 : t = zu_i OB 20 := Option.some.inj (show some t = some (Int32.ofNat (OB 20)).toInt from he _ (List.mem_of_getElem? (i := 0) rfl))
  have t1 : 0 ≤ t := t1
  have t2 : t ≤ 16777215 := t2
  refine ⟨_, _, zsy17 (t := t) (i := (xs (i + 1)).toInt) (c := (xs (i + 2)).toInt) (r := (xs (i + 3)).toInt) (co := co) (ro := ro) (br := br) (wc := wc) (wr := wr), ⟨rfl, rfl, rfl⟩, fun r F' G' hq => ?_⟩
  obtain ⟨rfl, hr, wc', wr', rfl, u3, u4⟩ := hq
  rw [zxHb2]
  refine ⟨List.forall_mem_cons.mpr ⟨rfl, fun _ h => absurd h List.not_mem_nil⟩, ?_, ⟨_, hr, zs_walk01⟩, List.forall_mem_cons.mpr ⟨he _ (List.mem_of_getElem? (i := 0) rfl), fun _ h => absurd h List.not_mem_nil⟩, fun _ _ h => (by cases h)⟩
  · intro q hq g g' hg hg' i i0 i1
    rcases List.mem_cons.mp hq with rfl | hq
    · cases hg; cases hg'; exact Or.inl (Or.inl rfl)
    rcases List.mem_cons.mp hq with rfl | hq
    · cases hg; cases hg'; exact Or.inl (Or.inl rfl)
    rcases List.mem_cons.mp hq with rfl | hq
    · cases hg; cases hg'; exact Or.inl (Or.inl rfl)
    rcases List.mem_cons.mp hq with rfl | hq
    · cases hg; cases hg'; exact Or.inl (u3 i)
    rcases List.mem_cons.mp hq with rfl | hq
    · cases hg; cases hg'; exact Or.inl (u4 i)
    cases hq)⟩
theorem zxHw3 : zb_wf z_TYs z_cl zyT [199, 200, 201, 202] [.inl 0, .inr (0, 12, 0), .inr (0, 12, 1), .inr (0, 12, 2)] = true := by decide +kernel
theorem zxHa3 : zu_lst zyT zu_NMm 199 = [(.inr (0, 126), 20), (.inr (2, 126), 21), (.inl 0, 22)] := by decide +kernel
theorem zxHb3 : zu_lst zyT zu_NMm 199 = [(.inr (0, 126), 20), (.inr (2, 126), 21), (.inl 0, 22)] := by decide +kernel
theorem zxH3 {l : Launch} {OB : Nat → Nat} {D : va_G} {DA : Nat → ClassId} {sz : Nat} {xs : Nat → Int32} {i : Nat} (hpr : zu_PRO z_f xs OB i) : zu_hand l OB D DA z_cl z_FT z_TYs z_PH sz z_KX z_TB "StarTalesLaw" code xs i (z_HC.getD 3 (0, (0, 0, 0), zxgh_walk_m, [], false)) := ⟨22, zxm202.1, zxm202.2.1, zxm202.2.2.2.1, zqd_293, zu_lk (k := 202) (List.mem_of_getElem? (i := 5) rfl) zxt202, ⟨_, rfl, rfl⟩, rfl, zu_OKp (mm := zxm202) (RC := [.inl 0, .inr (0, 12, 0), .inr (0, 12, 1), .inr (0, 12, 2)]) (RF := [(0, 1)]) (RG := [(422, ((-2147483648), 2147483647)), (422, ((-2147483648), 2147483647)), (422, ((-2147483648), 2147483647))]) (AR := [.inl 0, .inr (-2147483648, 2147483647), .inr (-2147483648, 2147483647), .inr (-2147483648, 2147483647)]) (RFo := [(0, none)]) (UP := zs_UM) (CP := []) (RR := some (some (0, 1))) (fl := 16) (t0 := 199) (t1 := 199) (ph := 0) (NMS := zu_NMm) zxHw3 (by decide +kernel) rfl (zu_rc0_ok (by decide +kernel)) (by decide) (by decide +kernel) (by decide +kernel) (by decide +kernel) (by decide +kernel) (by decide +kernel) rfl (zu_phl rfl (by decide +kernel)) (by
  intro va F G hva hF hG hrg he hpx
  obtain ⟨_, rfl, x1, _, rfl, xa1, xb1, x2, _, rfl, xa2, xb2, x3, _, rfl, xa3, xb3, rfl⟩ := hva
  obtain ⟨A, vals, hst, hpx⟩ := hpx
  have e1 : x1 = (xs (i + 1)).toInt := by
    have h8 := hpx 1 1 rfl (by decide)
    rw [List.getElem?_toArray] at h8
    have h9 := zu_px hst h8
    exact Sum.inl.inj (Option.some.inj h9)
  have e2 : x2 = (xs (i + 2)).toInt := by
    have h8 := hpx 2 2 rfl (by decide)
    rw [List.getElem?_toArray] at h8
    have h9 := zu_px hst h8
    exact Sum.inl.inj (Option.some.inj h9)
  have e3 : x3 = (xs (i + 3)).toInt := by
    have h8 := hpx 3 3 rfl (by decide)
    rw [List.getElem?_toArray] at h8
    have h9 := zu_px hst h8
    exact Sum.inl.inj (Option.some.inj h9)
  subst e1
  subst e2
  subst e3
  rw [zxHa3] at he
  obtain ⟨p30, p31, p35, p36, p40⟩ := hpr
  obtain ⟨k, _, rfl, k1, k2, rfl⟩ := hF
  obtain ⟨nw, _, rfl, _, as, _, rfl, _, kp, _, rfl, _, rfl⟩ := hG
  have h20 : nw 126 = zu_i OB 20 := by
    obtain ⟨g, g1, g2⟩ := (show ∃ g, zn_l [nw, as, kp] 0 = some g ∧ g ((126 : Nat) : Int) = (Int32.ofNat (OB 20)).toInt from he _ (List.mem_of_getElem? (i := 0) rfl))
    cases g1
    exact g2
  have h21 : kp 126 = zu_i OB 21 := by
    obtain ⟨g, g1, g2⟩ := (show ∃ g, zn_l [nw, as, kp] 2 = some g ∧ g ((126 : Nat) : Int) = (Int32.ofNat (OB 21)).toInt from he _ (List.mem_of_getElem? (i := 1) rfl))
    cases g1
    exact g2
  have h22 : k = zu_i OB 22 := Option.some.inj (show some k = some (Int32.ofNat (OB 22)).toInt from he _ (List.mem_of_getElem? (i := 2) rfl))
  obtain ⟨gw, w1, w2, w3⟩ := zu_at_rg (q := (1, 0, 422, 0)) (k := 126) (w := (0, 16777215)) List.mem_cons_self (by decide) (by decide +kernel) hrg
  cases w1
  refine ⟨_, _, zsm202 (k := k) (i := (xs (i + 1)).toInt) (c := (xs (i + 2)).toInt) (r := (xs (i + 3)).toInt) (nw := nw) (as := as) (kp := kp), ⟨rfl, rfl, rfl, w2, w3⟩, fun r F' G' hq => ?_⟩
  obtain ⟨hr, rfl, nw', rfl, hn, hu⟩ := hq
  rw [zxHb3]
  refine ⟨List.forall_mem_cons.mpr ⟨rfl, fun _ h => absurd h List.not_mem_nil⟩, ?_, ⟨_, hr, zs_walk01⟩, List.forall_mem_cons.mpr ⟨⟨nw', rfl, (by show nw' 126 = _; rw [hn, h20])⟩, List.forall_mem_cons.mpr ⟨he _ (List.mem_of_getElem? (i := 1) rfl), List.forall_mem_cons.mpr ⟨he _ (List.mem_of_getElem? (i := 2) rfl), fun _ h => absurd h List.not_mem_nil⟩⟩⟩, fun _ _ h => (by cases h)⟩
  · intro q hq g g' hg hg' i i0 i1
    rcases List.mem_cons.mp hq with rfl | hq
    · cases hg; cases hg'; exact Or.inl (hu i)
    rcases List.mem_cons.mp hq with rfl | hq
    · cases hg; cases hg'; exact Or.inl (Or.inl rfl)
    rcases List.mem_cons.mp hq with rfl | hq
    · cases hg; cases hg'; exact Or.inl (Or.inl rfl)
    cases hq)⟩
theorem zxHw4 : zb_wf z_TYs z_cl zyX [129, 130, 131, 132, 133, 134, 135] [.inl 0, .inr (0, 0, 0), .inr (1, 1, 1), .inr (1, 1, 2), .inr (1, 1, 3), .inr (1, 1, 4), .inr (1, 1, 5)] = true := by decide +kernel
theorem zxHa4 : zu_lst zyX [(0, 15), (1, 10)] 129 = [(.inl 0, 20)] := by decide +kernel
theorem zxHb4 : zu_lst zyX [(0, 15), (1, 10)] 245 = [(.inl 0, 31)] := by decide +kernel
theorem zxH4 {l : Launch} {OB : Nat → Nat} {D : va_G} {DA : Nat → ClassId} {sz : Nat} {xs : Nat → Int32} {i : Nat} (hpr : zu_PRO z_f xs OB i) : zu_hand l OB D DA z_cl z_FT z_TYs z_PH sz z_KX z_TB "StarTalesLaw" code xs i (z_HC.getD 4 (0, (0, 0, 0), zxgh_gone_x, [], false)) := ⟨23, zxm19.1, zxm19.2.1, zxm19.2.2.2.1, zqd_306, zu_lk (k := 19) (List.mem_of_getElem? (i := 6) rfl) zxt19, ⟨_, rfl, rfl⟩, rfl, zu_OKp (mm := zxm19) (RC := [.inl 0, .inr (0, 0, 0), .inr (1, 1, 1), .inr (1, 1, 2), .inr (1, 1, 3), .inr (1, 1, 4), .inr (1, 1, 5)]) (RF := [(0, 16777215)]) (RG := [(24, ((-23), 47)), (24, (0, 2147483647)), (24, (0, 9)), (24, ((-3), 3)), (24, ((-3), 3))]) (AR := [.inl 0, .inr (-2147483648, 2147483647)]) (RFo := [(0, some (0, 16777215))]) (UP := zs_UX) (CP := []) (RR := some (some (0, 1))) (fl := 15) (t0 := 129) (t1 := 245) (ph := 5) (NMS := [(0, 15), (1, 10)]) zxHw4 (by decide +kernel) rfl (zu_rc0_ok (by decide +kernel)) (by decide) (by decide +kernel) (by decide +kernel) (by decide +kernel) (by decide +kernel) (by decide +kernel) rfl (zu_phl rfl (by decide +kernel)) (by
  intro va F G hva hF hG hrg he hpx
  obtain ⟨_, rfl, x1, _, rfl, xa1, xb1, rfl⟩ := hva
  obtain ⟨A, vals, hst, hpx⟩ := hpx
  have e1 : x1 = (xs (i + 1)).toInt := by
    have h8 := hpx 1 1 rfl (by decide)
    rw [List.getElem?_toArray] at h8
    have h9 := zu_px hst h8
    exact Sum.inl.inj (Option.some.inj h9)
  subst e1
  rw [zxHa4] at he
  obtain ⟨p30, p31, p35, p36, p40⟩ := hpr
  obtain ⟨t, _, rfl, t1, t2, rfl⟩ := hF
  obtain ⟨co, _, rfl, _, ro, _, rfl, _, br, _, rfl, _, wc, _, rfl, _, wr, _, rfl, _, rfl⟩ := hG
  have h20 : t = zu_i OB 20 := Option.some.inj (show some t = some (Int32.ofNat (OB 20)).toInt from he _ (List.mem_of_getElem? (i := 0) rfl))
  have t1 : 0 ≤ t := t1
  have t2 : t ≤ 16777215 := t2
  refine ⟨_, _, zsx19 (t := t) (i := (xs (i + 1)).toInt), ⟨rfl, rfl⟩, fun r F' G' hq => ?_⟩
  obtain ⟨rfl, hr, rfl⟩ := hq
  rw [zxHb4]
  refine ⟨List.forall_mem_cons.mpr ⟨fun x h => (by cases h; exact zs_gone_in t1 t2), fun _ h => absurd h List.not_mem_nil⟩, ?_, ⟨_, hr, zs_has01⟩, List.forall_mem_cons.mpr ⟨(show some (zs_gone t ((xs (i + 1)).toInt)) = some (zu_i OB 31) by rw [p31, h20]), fun _ h => absurd h List.not_mem_nil⟩, fun _ _ h => (by cases h)⟩
  · intro q hq g g' hg hg' i i0 i1
    rcases List.mem_cons.mp hq with rfl | hq
    · cases hg; cases hg'; exact Or.inl (Or.inl rfl)
    rcases List.mem_cons.mp hq with rfl | hq
    · cases hg; cases hg'; exact Or.inl (Or.inl rfl)
    rcases List.mem_cons.mp hq with rfl | hq
    · cases hg; cases hg'; exact Or.inl (Or.inl rfl)
    rcases List.mem_cons.mp hq with rfl | hq
    · cases hg; cases hg'; exact Or.inl (Or.inl rfl)
    rcases List.mem_cons.mp hq with rfl | hq
    · cases hg; cases hg'; exact Or.inl (Or.inl rfl)
    cases hq)⟩
theorem zxHw5 : zb_wf z_TYs z_cl zyT [199, 200, 201, 202] [.inl 0, .inr (0, 12, 0), .inr (0, 12, 1), .inr (0, 12, 2)] = true := by decide +kernel
theorem zxHa5 : zu_lst zyT zu_NMm 199 = [(.inr (0, 126), 20), (.inr (2, 126), 21), (.inl 0, 22)] := by decide +kernel
theorem zxHb5 : zu_lst zyT zu_NMm 249 = [(.inr (0, 126), 31), (.inr (2, 126), 21), (.inl 0, 22)] := by decide +kernel
theorem zxH5 {l : Launch} {OB : Nat → Nat} {D : va_G} {DA : Nat → ClassId} {sz : Nat} {xs : Nat → Int32} {i : Nat} (hpr : zu_PRO z_f xs OB i) : zu_hand l OB D DA z_cl z_FT z_TYs z_PH sz z_KX z_TB "StarTalesLaw" code xs i (z_HC.getD 5 (0, (0, 0, 0), zxgh_gone_m, [], false)) := ⟨27, zxm205.1, zxm205.2.1, zxm205.2.2.2.1, zqd_316, zu_lk (k := 205) (List.mem_of_getElem? (i := 7) rfl) zxt205, ⟨_, rfl, rfl⟩, rfl, zu_OKp (mm := zxm205) (RC := [.inl 0, .inr (0, 12, 0), .inr (0, 12, 1), .inr (0, 12, 2)]) (RF := [(0, 1)]) (RG := [(422, ((-2147483648), 2147483647)), (422, ((-2147483648), 2147483647)), (422, ((-2147483648), 2147483647))]) (AR := [.inl 0, .inr (-2147483648, 2147483647)]) (RFo := [(0, none)]) (UP := zs_UM) (CP := []) (RR := some (some (0, 1))) (fl := 16) (t0 := 199) (t1 := 249) (ph := 9) (NMS := zu_NMm) zxHw5 (by decide +kernel) rfl (zu_rc0_ok (by decide +kernel)) (by decide) (by decide +kernel) (by decide +kernel) (by decide +kernel) (by decide +kernel) (by decide +kernel) rfl (zu_phl rfl (by decide +kernel)) (by
  intro va F G hva hF hG hrg he hpx
  obtain ⟨_, rfl, x1, _, rfl, xa1, xb1, rfl⟩ := hva
  obtain ⟨A, vals, hst, hpx⟩ := hpx
  have e1 : x1 = (xs (i + 1)).toInt := by
    have h8 := hpx 1 1 rfl (by decide)
    rw [List.getElem?_toArray] at h8
    have h9 := zu_px hst h8
    exact Sum.inl.inj (Option.some.inj h9)
  subst e1
  rw [zxHa5] at he
  obtain ⟨p30, p31, p35, p36, p40⟩ := hpr
  obtain ⟨k, _, rfl, k1, k2, rfl⟩ := hF
  obtain ⟨nw, _, rfl, _, as, _, rfl, _, kp, _, rfl, _, rfl⟩ := hG
  have h20 : nw 126 = zu_i OB 20 := by
    obtain ⟨g, g1, g2⟩ := (show ∃ g, zn_l [nw, as, kp] 0 = some g ∧ g ((126 : Nat) : Int) = (Int32.ofNat (OB 20)).toInt from he _ (List.mem_of_getElem? (i := 0) rfl))
    cases g1
    exact g2
  have h21 : kp 126 = zu_i OB 21 := by
    obtain ⟨g, g1, g2⟩ := (show ∃ g, zn_l [nw, as, kp] 2 = some g ∧ g ((126 : Nat) : Int) = (Int32.ofNat (OB 21)).toInt from he _ (List.mem_of_getElem? (i := 1) rfl))
    cases g1
    exact g2
  have h22 : k = zu_i OB 22 := Option.some.inj (show some k = some (Int32.ofNat (OB 22)).toInt from he _ (List.mem_of_getElem? (i := 2) rfl))
  obtain ⟨gw, w1, w2, w3⟩ := zu_at_rg (q := (1, 0, 422, 0)) (k := 126) (w := (0, 16777215)) List.mem_cons_self (by decide) (by decide +kernel) hrg
  cases w1
  refine ⟨_, _, zsm205 (k := k) (i := (xs (i + 1)).toInt) (nw := nw) (as := as) (kp := kp), ⟨rfl, rfl, rfl, w2, w3⟩, fun r F' G' hq => ?_⟩
  obtain ⟨hr, rfl, nw', rfl, hn, hu⟩ := hq
  rw [zxHb5]
  refine ⟨List.forall_mem_cons.mpr ⟨rfl, fun _ h => absurd h List.not_mem_nil⟩, ?_, ⟨_, hr, zs_has01⟩, List.forall_mem_cons.mpr ⟨⟨nw', rfl, (by show nw' 126 = _; rw [hn, h20]; exact p31.symm)⟩, List.forall_mem_cons.mpr ⟨he _ (List.mem_of_getElem? (i := 1) rfl), List.forall_mem_cons.mpr ⟨he _ (List.mem_of_getElem? (i := 2) rfl), fun _ h => absurd h List.not_mem_nil⟩⟩⟩, fun _ _ h => (by cases h)⟩
  · intro q hq g g' hg hg' i i0 i1
    rcases List.mem_cons.mp hq with rfl | hq
    · cases hg; cases hg'; exact Or.inl (hu i)
    rcases List.mem_cons.mp hq with rfl | hq
    · cases hg; cases hg'; exact Or.inl (Or.inl rfl)
    rcases List.mem_cons.mp hq with rfl | hq
    · cases hg; cases hg'; exact Or.inl (Or.inl rfl)
    cases hq)⟩
theorem zxHw6 : zb_wf z_TYs z_cl zyK [129, 130, 136, 131, 132, 133, 134, 135, 137, 138, 139, 140, 141, 142, 145, 143, 144, 146, 147] [.inl 0, .inr (0, 0, 0), .inr (0, 0, 1), .inr (1, 1, 1), .inr (1, 1, 2), .inr (1, 1, 3), .inr (1, 1, 4), .inr (1, 1, 5), .inr (2, 1, 1), .inr (2, 1, 2), .inr (2, 1, 3), .inr (2, 1, 4), .inr (2, 1, 5), .inr (0, 0, 3), .inr (0, 0, 4), .inr (13, 2, 0), .inr (13, 2, 2), .inr (14, 2, 0), .inr (14, 2, 2)] = true := by decide +kernel
theorem zxHa6 : zu_lst zyK [(0, 15), (1, 10), (2, 11)] 129 = [(.inl 0, 20), (.inl 7, 21), (.inl 16, 22)] := by decide +kernel
theorem zxHb6 : zu_lst zyK [(0, 15), (1, 10), (2, 11)] 246 = [(.inl 0, 20), (.inl 7, 20), (.inl 16, 35)] := by decide +kernel
theorem zxH6 {l : Launch} {OB : Nat → Nat} {D : va_G} {DA : Nat → ClassId} {sz : Nat} {xs : Nat → Int32} {i : Nat} (hpr : zu_PRO z_f xs OB i) : zu_hand l OB D DA z_cl z_FT z_TYs z_PH sz z_KX z_TB "StarTalesLaw" code xs i (z_HC.getD 6 (0, (0, 0, 0), zxgh_keep_x, [], false)) := ⟨165, zxm191.1, zxm191.2.1, zxm191.2.2.2.1, zqd_1522, zu_lk (k := 191) (List.mem_of_getElem? (i := 72) rfl) zxt191, ⟨_, rfl, rfl⟩, rfl, zu_OKp (mm := zxm191) (RC := [.inl 0, .inr (0, 0, 0), .inr (0, 0, 1), .inr (1, 1, 1), .inr (1, 1, 2), .inr (1, 1, 3), .inr (1, 1, 4), .inr (1, 1, 5), .inr (2, 1, 1), .inr (2, 1, 2), .inr (2, 1, 3), .inr (2, 1, 4), .inr (2, 1, 5), .inr (0, 0, 3), .inr (0, 0, 4), .inr (13, 2, 0), .inr (13, 2, 2), .inr (14, 2, 0), .inr (14, 2, 2)]) (RF := [(0, 16777215), ((-2147483648), 2147483647), ((-2147483648), 2147483647), (0, 16777215), (0, 11), (0, 11), (0, 65535), (0, 16777215), ((-2147483648), 2147483647), ((-2147483648), 2147483647), (0, 16777215), (0, 11), (0, 11), (0, 65535), (0, 63), (0, 63), (0, 1)]) (RG := [(24, ((-23), 47)), (24, (0, 2147483647)), (24, (0, 9)), (24, ((-3), 3)), (24, ((-3), 3)), (24, ((-23), 47)), (24, (0, 2147483647)), (24, (0, 9)), (24, ((-3), 3)), (24, ((-3), 3)), (12, (0, 16777215)), (6, (0, 287)), (12, (0, 16777215)), (6, (0, 287))]) (AR := [.inl 0]) (RFo := [(7, some (0, 16777215)), (8, some ((-2147483648), 2147483647)), (9, some ((-2147483648), 2147483647)), (10, some (0, 16777215)), (11, some (0, 11)), (12, some (0, 11)), (13, some (0, 65535)), (15, some (0, 63)), (16, some (0, 1)), (0, none), (1, none), (2, none), (3, none), (4, none), (5, none), (6, none), (14, none)]) (UP := []) (CP := [(5, 0), (6, 1), (7, 2), (8, 3), (9, 4), (12, 10), (13, 11)]) (RR := some none) (fl := 15) (t0 := 129) (t1 := 246) (ph := 6) (NMS := [(0, 15), (1, 10), (2, 11)]) zxHw6 (by decide +kernel) rfl (zu_rc0_ok (by decide +kernel)) (by decide) (by decide +kernel) (by decide +kernel) (by decide +kernel) (by decide +kernel) (by decide +kernel) rfl (zu_phl rfl (by decide +kernel)) (by
  intro va F G hva hF hG hrg he hpx
  obtain ⟨_, rfl, rfl⟩ := hva
  obtain ⟨A, vals, hst, hpx⟩ := hpx
  rw [zxHa6] at he
  obtain ⟨p30, p31, p35, p36, p40⟩ := hpr
  obtain ⟨f0, _, rfl, l0, u0, f1, _, rfl, l1, u1, f2, _, rfl, l2, u2, f3, _, rfl, l3, u3, f4, _, rfl, l4, u4, f5, _, rfl, l5, u5, f6, _, rfl, l6, u6, f7, _, rfl, l7, u7, f8, _, rfl, l8, u8, f9, _, rfl, l9, u9, f10, _, rfl, l10, u10, f11, _, rfl, l11, u11, f12, _, rfl, l12, u12, f13, _, rfl, l13, u13, f14, _, rfl, l14, u14, f15, _, rfl, l15, u15, f16, _, rfl, l16, u16, rfl⟩ := hF
  obtain ⟨g0, _, rfl, _, g1, _, rfl, _, g2, _, rfl, _, g3, _, rfl, _, g4, _, rfl, _, g5, _, rfl, _, g6, _, rfl, _, g7, _, rfl, _, g8, _, rfl, _, g9, _, rfl, _, g10, _, rfl, _, g11, _, rfl, _, g12, _, rfl, _, g13, _, rfl, _, rfl⟩ := hG
  have h20 : f0 = zu_i OB 20 := Option.some.inj (show some f0 = some (Int32.ofNat (OB 20)).toInt from he _ (List.mem_of_getElem? (i := 0) rfl))
  have h21 : f7 = zu_i OB 21 := Option.some.inj (show some f7 = some (Int32.ofNat (OB 21)).toInt from he _ (List.mem_of_getElem? (i := 1) rfl))
  have h22 : f16 = zu_i OB 22 := Option.some.inj (show some f16 = some (Int32.ofNat (OB 22)).toInt from he _ (List.mem_of_getElem? (i := 2) rfl))
  refine ⟨_, _, zsx191 (f0 := f0) (f1 := f1) (f2 := f2) (f3 := f3) (f4 := f4) (f5 := f5) (f6 := f6) (f7 := f7) (f8 := f8) (f9 := f9) (f10 := f10) (f11 := f11) (f12 := f12) (f13 := f13) (f14 := f14) (f15 := f15) (f16 := f16) (g0 := g0) (g1 := g1) (g2 := g2) (g3 := g3) (g4 := g4) (g5 := g5) (g6 := g6) (g7 := g7) (g8 := g8) (g9 := g9) (g10 := g10) (g11 := g11) (g12 := g12) (g13 := g13), ⟨rfl, rfl, rfl⟩, fun r F' G' hq => ?_⟩
  obtain ⟨⟨v, hr, hv9⟩, rfl, d0, d1, d2, d3, d4, d5, d6, rfl, e0, e1, e2, e3, e4, e5, e6⟩ := hq
  obtain rfl := hv9 l0 u0
  rw [zxHb6]
  refine ⟨List.forall_mem_cons.mpr ⟨fun x h => (by cases h; exact ⟨l0, u0⟩), List.forall_mem_cons.mpr ⟨fun x h => (by cases h; exact ⟨l1, u1⟩), List.forall_mem_cons.mpr ⟨fun x h => (by cases h; exact ⟨l2, u2⟩), List.forall_mem_cons.mpr ⟨fun x h => (by cases h; exact ⟨l3, u3⟩), List.forall_mem_cons.mpr ⟨fun x h => (by cases h; exact ⟨l4, u4⟩), List.forall_mem_cons.mpr ⟨fun x h => (by cases h; exact ⟨l5, u5⟩), List.forall_mem_cons.mpr ⟨fun x h => (by cases h; exact ⟨l6, u6⟩), List.forall_mem_cons.mpr ⟨fun x h => (by cases h; exact ⟨l14, u14⟩), List.forall_mem_cons.mpr ⟨fun x h => (by cases h; decide), List.forall_mem_cons.mpr ⟨rfl, List.forall_mem_cons.mpr ⟨rfl, List.forall_mem_cons.mpr ⟨rfl, List.forall_mem_cons.mpr ⟨rfl, List.forall_mem_cons.mpr ⟨rfl, List.forall_mem_cons.mpr ⟨rfl, List.forall_mem_cons.mpr ⟨rfl, List.forall_mem_cons.mpr ⟨rfl, fun _ h => absurd h List.not_mem_nil⟩⟩⟩⟩⟩⟩⟩⟩⟩⟩⟩⟩⟩⟩⟩⟩⟩, ?_, ⟨_, hr⟩, List.forall_mem_cons.mpr ⟨he _ (List.mem_of_getElem? (i := 0) rfl), List.forall_mem_cons.mpr ⟨(show some f0 = some (zu_i OB 20) by rw [h20]), List.forall_mem_cons.mpr ⟨(show some (1 : Int) = some (zu_i OB 35) by rw [p35]), fun _ h => absurd h List.not_mem_nil⟩⟩⟩, ?_⟩
  · intro q hq g g' hg hg' i i0 i1
    rcases List.mem_cons.mp hq with rfl | hq
    · cases hg; cases hg'; exact Or.inl (Or.inl rfl)
    rcases List.mem_cons.mp hq with rfl | hq
    · cases hg; cases hg'; exact Or.inl (Or.inl rfl)
    rcases List.mem_cons.mp hq with rfl | hq
    · cases hg; cases hg'; exact Or.inl (Or.inl rfl)
    rcases List.mem_cons.mp hq with rfl | hq
    · cases hg; cases hg'; exact Or.inl (Or.inl rfl)
    rcases List.mem_cons.mp hq with rfl | hq
    · cases hg; cases hg'; exact Or.inl (Or.inl rfl)
    rcases List.mem_cons.mp hq with rfl | hq
    · cases hg; cases hg'; exact Or.inr ⟨(5, 0), List.mem_of_getElem? (i := 0) rfl, rfl, g0, rfl, e0 i i0 (by have : i < ((24 : Nat) : Int) := i1; omega)⟩
    rcases List.mem_cons.mp hq with rfl | hq
    · cases hg; cases hg'; exact Or.inr ⟨(6, 1), List.mem_of_getElem? (i := 1) rfl, rfl, g1, rfl, e1 i i0 (by have : i < ((24 : Nat) : Int) := i1; omega)⟩
    rcases List.mem_cons.mp hq with rfl | hq
    · cases hg; cases hg'; exact Or.inr ⟨(7, 2), List.mem_of_getElem? (i := 2) rfl, rfl, g2, rfl, e2 i i0 (by have : i < ((24 : Nat) : Int) := i1; omega)⟩
    rcases List.mem_cons.mp hq with rfl | hq
    · cases hg; cases hg'; exact Or.inr ⟨(8, 3), List.mem_of_getElem? (i := 3) rfl, rfl, g3, rfl, e3 i i0 (by have : i < ((24 : Nat) : Int) := i1; omega)⟩
    rcases List.mem_cons.mp hq with rfl | hq
    · cases hg; cases hg'; exact Or.inr ⟨(9, 4), List.mem_of_getElem? (i := 4) rfl, rfl, g4, rfl, e4 i i0 (by have : i < ((24 : Nat) : Int) := i1; omega)⟩
    rcases List.mem_cons.mp hq with rfl | hq
    · cases hg; cases hg'; exact Or.inl (Or.inl rfl)
    rcases List.mem_cons.mp hq with rfl | hq
    · cases hg; cases hg'; exact Or.inl (Or.inl rfl)
    rcases List.mem_cons.mp hq with rfl | hq
    · cases hg; cases hg'; exact Or.inr ⟨(12, 10), List.mem_of_getElem? (i := 5) rfl, rfl, g10, rfl, e5 i i0 (by have : i < ((12 : Nat) : Int) := i1; omega)⟩
    rcases List.mem_cons.mp hq with rfl | hq
    · cases hg; cases hg'; exact Or.inr ⟨(13, 11), List.mem_of_getElem? (i := 6) rfl, rfl, g11, rfl, e6 i i0 (by have : i < ((6 : Nat) : Int) := i1; omega)⟩
    cases hq
  · intro v hv _
    rw [hr] at hv
    cases v with
    | none => exact absurd hv (fun h => h)
    | some w =>
      obtain ⟨z, rfl, hz⟩ := hv
      have h9 : z = Int32.ofNat (OB 40) := Int32.toInt_inj.mp (by rw [hz]; rw [h20]; exact p40.symm)
      rw [h9])⟩
theorem zxHw7 : zb_wf z_TYs z_cl zyT [199, 200, 201, 202] [.inl 0, .inr (0, 12, 0), .inr (0, 12, 1), .inr (0, 12, 2)] = true := by decide +kernel
theorem zxHa7 : zu_lst zyT zu_NMm 199 = [(.inr (0, 126), 20), (.inr (2, 126), 21), (.inl 0, 22)] := by decide +kernel
theorem zxHb7 : zu_lst zyT zu_NMm 250 = [(.inr (0, 126), 20), (.inr (2, 126), 20), (.inl 0, 35)] := by decide +kernel
theorem zxH7 {l : Launch} {OB : Nat → Nat} {D : va_G} {DA : Nat → ClassId} {sz : Nat} {xs : Nat → Int32} {i : Nat} (hpr : zu_PRO z_f xs OB i) : zu_hand l OB D DA z_cl z_FT z_TYs z_PH sz z_KX z_TB "StarTalesLaw" code xs i (z_HC.getD 7 (0, (0, 0, 0), zxgh_keep_m, [], false)) := ⟨168, zxm319.1, zxm319.2.1, zxm319.2.2.2.1, zqd_1526, zu_lk (k := 319) (List.mem_of_getElem? (i := 73) rfl) zxt319, ⟨_, rfl, rfl⟩, rfl, zu_OKp (mm := zxm319) (RC := [.inl 0, .inr (0, 12, 0), .inr (0, 12, 1), .inr (0, 12, 2)]) (RF := [(0, 1)]) (RG := [(422, ((-2147483648), 2147483647)), (422, ((-2147483648), 2147483647)), (422, ((-2147483648), 2147483647))]) (AR := [.inl 0]) (RFo := [(0, some (0, 1))]) (UP := []) (CP := [(2, 0)]) (RR := some none) (fl := 16) (t0 := 199) (t1 := 250) (ph := 10) (NMS := zu_NMm) zxHw7 (by decide +kernel) rfl (zu_rc0_ok (by decide +kernel)) (by decide) (by decide +kernel) (by decide +kernel) (by decide +kernel) (by decide +kernel) (by decide +kernel) rfl (zu_phl rfl (by decide +kernel)) (by
  intro va F G hva hF hG hrg he hpx
  obtain ⟨_, rfl, rfl⟩ := hva
  obtain ⟨A, vals, hst, hpx⟩ := hpx
  rw [zxHa7] at he
  obtain ⟨p30, p31, p35, p36, p40⟩ := hpr
  obtain ⟨k, _, rfl, k1, k2, rfl⟩ := hF
  obtain ⟨nw, _, rfl, _, as, _, rfl, _, kp, _, rfl, _, rfl⟩ := hG
  have h20 : nw 126 = zu_i OB 20 := by
    obtain ⟨g, g1, g2⟩ := (show ∃ g, zn_l [nw, as, kp] 0 = some g ∧ g ((126 : Nat) : Int) = (Int32.ofNat (OB 20)).toInt from he _ (List.mem_of_getElem? (i := 0) rfl))
    cases g1
    exact g2
  have h21 : kp 126 = zu_i OB 21 := by
    obtain ⟨g, g1, g2⟩ := (show ∃ g, zn_l [nw, as, kp] 2 = some g ∧ g ((126 : Nat) : Int) = (Int32.ofNat (OB 21)).toInt from he _ (List.mem_of_getElem? (i := 1) rfl))
    cases g1
    exact g2
  have h22 : k = zu_i OB 22 := Option.some.inj (show some k = some (Int32.ofNat (OB 22)).toInt from he _ (List.mem_of_getElem? (i := 2) rfl))
  refine ⟨_, _, zsm319 (k := k) (nw := nw) (as := as) (kp := kp), ⟨rfl, rfl, rfl⟩, fun r F' G' hq => ?_⟩
  obtain ⟨hr, rfl, d, rfl, hd⟩ := hq
  rw [zxHb7]
  refine ⟨List.forall_mem_cons.mpr ⟨fun x h => (by cases h; decide), fun _ h => absurd h List.not_mem_nil⟩, ?_, ⟨_, hr⟩, List.forall_mem_cons.mpr ⟨he _ (List.mem_of_getElem? (i := 0) rfl), List.forall_mem_cons.mpr ⟨⟨d, rfl, (hd 126 (by decide) (by decide)).trans h20⟩, List.forall_mem_cons.mpr ⟨(show some (1 : Int) = some (zu_i OB 35) by rw [p35]), fun _ h => absurd h List.not_mem_nil⟩⟩⟩, ?_⟩
  · intro q hq g g' hg hg' i i0 i1
    rcases List.mem_cons.mp hq with rfl | hq
    · cases hg; cases hg'; exact Or.inl (Or.inl rfl)
    rcases List.mem_cons.mp hq with rfl | hq
    · cases hg; cases hg'; exact Or.inl (Or.inl rfl)
    rcases List.mem_cons.mp hq with rfl | hq
    · cases hg; cases hg'; exact Or.inr ⟨(2, 0), List.mem_cons_self, rfl, nw, rfl, hd i i0 (by have : i < ((422 : Nat) : Int) := i1; omega)⟩
    cases hq
  · intro v hv _
    rw [hr] at hv
    cases v with
    | none => exact absurd hv (fun h => h)
    | some w =>
      obtain ⟨z, rfl, hz⟩ := hv
      have h9 : z = Int32.ofNat (OB 40) := Int32.toInt_inj.mp (by rw [hz]; rw [h20]; exact p40.symm)
      rw [h9])⟩
theorem zxHw8 : zb_wf z_TYs z_cl zyK [129, 130, 136, 131, 132, 133, 134, 135, 137, 138, 139, 140, 141, 142, 145, 143, 144, 146, 147] [.inl 0, .inr (0, 0, 0), .inr (0, 0, 1), .inr (1, 1, 1), .inr (1, 1, 2), .inr (1, 1, 3), .inr (1, 1, 4), .inr (1, 1, 5), .inr (2, 1, 1), .inr (2, 1, 2), .inr (2, 1, 3), .inr (2, 1, 4), .inr (2, 1, 5), .inr (0, 0, 3), .inr (0, 0, 4), .inr (13, 2, 0), .inr (13, 2, 2), .inr (14, 2, 0), .inr (14, 2, 2)] = true := by decide +kernel
theorem zxHa8 : zu_lst zyK [(0, 15), (1, 10), (2, 11)] 129 = [(.inl 0, 20), (.inl 7, 21), (.inl 16, 22)] := by decide +kernel
theorem zxHb8 : zu_lst zyK [(0, 15), (1, 10), (2, 11)] 247 = [(.inl 0, 36), (.inl 7, 21), (.inl 16, 22)] := by decide +kernel
theorem zxH8 {l : Launch} {OB : Nat → Nat} {D : va_G} {DA : Nat → ClassId} {sz : Nat} {xs : Nat → Int32} {i : Nat} (hpr : zu_PRO z_f xs OB i) : zu_hand l OB D DA z_cl z_FT z_TYs z_PH sz z_KX z_TB "StarTalesLaw" code xs i (z_HC.getD 8 (0, (0, 0, 0), zxgh_undo_x, [], false)) := ⟨169, zxm193.1, zxm193.2.1, zxm193.2.2.2.1, zqd_1535, zu_lk (k := 193) (List.mem_of_getElem? (i := 74) rfl) zxt193, ⟨_, rfl, rfl⟩, rfl, zu_OKp (mm := zxm193) (RC := [.inl 0, .inr (0, 0, 0), .inr (0, 0, 1), .inr (1, 1, 1), .inr (1, 1, 2), .inr (1, 1, 3), .inr (1, 1, 4), .inr (1, 1, 5), .inr (2, 1, 1), .inr (2, 1, 2), .inr (2, 1, 3), .inr (2, 1, 4), .inr (2, 1, 5), .inr (0, 0, 3), .inr (0, 0, 4), .inr (13, 2, 0), .inr (13, 2, 2), .inr (14, 2, 0), .inr (14, 2, 2)]) (RF := [(0, 16777215), ((-2147483648), 2147483647), ((-2147483648), 2147483647), (0, 16777215), (0, 11), (0, 11), (0, 65535), (0, 16777215), ((-2147483648), 2147483647), ((-2147483648), 2147483647), (0, 16777215), (0, 11), (0, 11), (0, 65535), (0, 63), (0, 63), (0, 1)]) (RG := [(24, ((-23), 47)), (24, (0, 2147483647)), (24, (0, 9)), (24, ((-3), 3)), (24, ((-3), 3)), (24, ((-23), 47)), (24, (0, 2147483647)), (24, (0, 9)), (24, ((-3), 3)), (24, ((-3), 3)), (12, (0, 16777215)), (6, (0, 287)), (12, (0, 16777215)), (6, (0, 287))]) (AR := [.inl 0]) (RFo := [(0, some (0, 16777215)), (1, some ((-2147483648), 2147483647)), (2, some ((-2147483648), 2147483647)), (3, some (0, 16777215)), (4, some (0, 11)), (5, some (0, 11)), (6, some (0, 65535)), (14, some (0, 63)), (7, none), (8, none), (9, none), (10, none), (11, none), (12, none), (13, none), (15, none), (16, none)]) (UP := []) (CP := [(0, 5), (1, 6), (2, 7), (3, 8), (4, 9), (10, 12), (11, 13)]) (RR := some (some (0, 1))) (fl := 15) (t0 := 129) (t1 := 247) (ph := 7) (NMS := [(0, 15), (1, 10), (2, 11)]) zxHw8 (by decide +kernel) rfl (zu_rc0_ok (by decide +kernel)) (by decide) (by decide +kernel) (by decide +kernel) (by decide +kernel) (by decide +kernel) (by decide +kernel) rfl (zu_phl rfl (by decide +kernel)) (by
  intro va F G hva hF hG hrg he hpx
  obtain ⟨_, rfl, rfl⟩ := hva
  obtain ⟨A, vals, hst, hpx⟩ := hpx
  rw [zxHa8] at he
  obtain ⟨p30, p31, p35, p36, p40⟩ := hpr
  obtain ⟨f0, _, rfl, l0, u0, f1, _, rfl, l1, u1, f2, _, rfl, l2, u2, f3, _, rfl, l3, u3, f4, _, rfl, l4, u4, f5, _, rfl, l5, u5, f6, _, rfl, l6, u6, f7, _, rfl, l7, u7, f8, _, rfl, l8, u8, f9, _, rfl, l9, u9, f10, _, rfl, l10, u10, f11, _, rfl, l11, u11, f12, _, rfl, l12, u12, f13, _, rfl, l13, u13, f14, _, rfl, l14, u14, f15, _, rfl, l15, u15, f16, _, rfl, l16, u16, rfl⟩ := hF
  obtain ⟨g0, _, rfl, _, g1, _, rfl, _, g2, _, rfl, _, g3, _, rfl, _, g4, _, rfl, _, g5, _, rfl, _, g6, _, rfl, _, g7, _, rfl, _, g8, _, rfl, _, g9, _, rfl, _, g10, _, rfl, _, g11, _, rfl, _, g12, _, rfl, _, g13, _, rfl, _, rfl⟩ := hG
  have h20 : f0 = zu_i OB 20 := Option.some.inj (show some f0 = some (Int32.ofNat (OB 20)).toInt from he _ (List.mem_of_getElem? (i := 0) rfl))
  have h21 : f7 = zu_i OB 21 := Option.some.inj (show some f7 = some (Int32.ofNat (OB 21)).toInt from he _ (List.mem_of_getElem? (i := 1) rfl))
  have h22 : f16 = zu_i OB 22 := Option.some.inj (show some f16 = some (Int32.ofNat (OB 22)).toInt from he _ (List.mem_of_getElem? (i := 2) rfl))
  refine ⟨_, _, zsx193 (f0 := f0) (f1 := f1) (f2 := f2) (f3 := f3) (f4 := f4) (f5 := f5) (f6 := f6) (f7 := f7) (f8 := f8) (f9 := f9) (f10 := f10) (f11 := f11) (f12 := f12) (f13 := f13) (f14 := f14) (f15 := f15) (f16 := f16) (g0 := g0) (g1 := g1) (g2 := g2) (g3 := g3) (g4 := g4) (g5 := g5) (g6 := g6) (g7 := g7) (g8 := g8) (g9 := g9) (g10 := g10) (g11 := g11) (g12 := g12) (g13 := g13), ⟨rfl, rfl, rfl⟩, fun r F' G' hq => ?_⟩
  obtain ⟨hr, rfl, d0, d1, d2, d3, d4, d5, d6, rfl, e0, e1, e2, e3, e4, e5, e6⟩ := hq
  rw [zxHb8]
  refine ⟨List.forall_mem_cons.mpr ⟨fun x h => (by cases h; split; exact ⟨l7, u7⟩; exact ⟨l0, u0⟩), List.forall_mem_cons.mpr ⟨fun x h => (by cases h; split; exact ⟨l8, u8⟩; exact ⟨l1, u1⟩), List.forall_mem_cons.mpr ⟨fun x h => (by cases h; split; exact ⟨l9, u9⟩; exact ⟨l2, u2⟩), List.forall_mem_cons.mpr ⟨fun x h => (by cases h; split; exact ⟨l10, u10⟩; exact ⟨l3, u3⟩), List.forall_mem_cons.mpr ⟨fun x h => (by cases h; split; exact ⟨l11, u11⟩; exact ⟨l4, u4⟩), List.forall_mem_cons.mpr ⟨fun x h => (by cases h; split; exact ⟨l12, u12⟩; exact ⟨l5, u5⟩), List.forall_mem_cons.mpr ⟨fun x h => (by cases h; split; exact ⟨l13, u13⟩; exact ⟨l6, u6⟩), List.forall_mem_cons.mpr ⟨fun x h => (by cases h; split; exact ⟨l15, u15⟩; exact ⟨l14, u14⟩), List.forall_mem_cons.mpr ⟨rfl, List.forall_mem_cons.mpr ⟨rfl, List.forall_mem_cons.mpr ⟨rfl, List.forall_mem_cons.mpr ⟨rfl, List.forall_mem_cons.mpr ⟨rfl, List.forall_mem_cons.mpr ⟨rfl, List.forall_mem_cons.mpr ⟨rfl, List.forall_mem_cons.mpr ⟨rfl, List.forall_mem_cons.mpr ⟨rfl, fun _ h => absurd h List.not_mem_nil⟩⟩⟩⟩⟩⟩⟩⟩⟩⟩⟩⟩⟩⟩⟩⟩⟩, ?_, (by rcases hr with rfl | rfl; exact ⟨0, rfl, by decide, by decide⟩; exact ⟨1, rfl, by decide, by decide⟩), List.forall_mem_cons.mpr ⟨(show some (if f16 ≠ 0 then f7 else f0) = some (zu_i OB 36) by rw [p36, h20, h21, h22]), List.forall_mem_cons.mpr ⟨he _ (List.mem_of_getElem? (i := 1) rfl), List.forall_mem_cons.mpr ⟨he _ (List.mem_of_getElem? (i := 2) rfl), fun _ h => absurd h List.not_mem_nil⟩⟩⟩, fun _ _ h => (by cases h)⟩
  · intro q hq g g' hg hg' i i0 i1
    rcases List.mem_cons.mp hq with rfl | hq
    · cases hg; cases hg'; exact (by rcases e0 i i0 (by have : i < ((24 : Nat) : Int) := i1; omega) with h9 | h9; exact Or.inl (Or.inl h9); exact Or.inr ⟨(0, 5), List.mem_of_getElem? (i := 0) rfl, rfl, g5, rfl, h9⟩)
    rcases List.mem_cons.mp hq with rfl | hq
    · cases hg; cases hg'; exact (by rcases e1 i i0 (by have : i < ((24 : Nat) : Int) := i1; omega) with h9 | h9; exact Or.inl (Or.inl h9); exact Or.inr ⟨(1, 6), List.mem_of_getElem? (i := 1) rfl, rfl, g6, rfl, h9⟩)
    rcases List.mem_cons.mp hq with rfl | hq
    · cases hg; cases hg'; exact (by rcases e2 i i0 (by have : i < ((24 : Nat) : Int) := i1; omega) with h9 | h9; exact Or.inl (Or.inl h9); exact Or.inr ⟨(2, 7), List.mem_of_getElem? (i := 2) rfl, rfl, g7, rfl, h9⟩)
    rcases List.mem_cons.mp hq with rfl | hq
    · cases hg; cases hg'; exact (by rcases e3 i i0 (by have : i < ((24 : Nat) : Int) := i1; omega) with h9 | h9; exact Or.inl (Or.inl h9); exact Or.inr ⟨(3, 8), List.mem_of_getElem? (i := 3) rfl, rfl, g8, rfl, h9⟩)
    rcases List.mem_cons.mp hq with rfl | hq
    · cases hg; cases hg'; exact (by rcases e4 i i0 (by have : i < ((24 : Nat) : Int) := i1; omega) with h9 | h9; exact Or.inl (Or.inl h9); exact Or.inr ⟨(4, 9), List.mem_of_getElem? (i := 4) rfl, rfl, g9, rfl, h9⟩)
    rcases List.mem_cons.mp hq with rfl | hq
    · cases hg; cases hg'; exact Or.inl (Or.inl rfl)
    rcases List.mem_cons.mp hq with rfl | hq
    · cases hg; cases hg'; exact Or.inl (Or.inl rfl)
    rcases List.mem_cons.mp hq with rfl | hq
    · cases hg; cases hg'; exact Or.inl (Or.inl rfl)
    rcases List.mem_cons.mp hq with rfl | hq
    · cases hg; cases hg'; exact Or.inl (Or.inl rfl)
    rcases List.mem_cons.mp hq with rfl | hq
    · cases hg; cases hg'; exact Or.inl (Or.inl rfl)
    rcases List.mem_cons.mp hq with rfl | hq
    · cases hg; cases hg'; exact (by rcases e5 i i0 (by have : i < ((12 : Nat) : Int) := i1; omega) with h9 | h9; exact Or.inl (Or.inl h9); exact Or.inr ⟨(10, 12), List.mem_of_getElem? (i := 5) rfl, rfl, g12, rfl, h9⟩)
    rcases List.mem_cons.mp hq with rfl | hq
    · cases hg; cases hg'; exact (by rcases e6 i i0 (by have : i < ((6 : Nat) : Int) := i1; omega) with h9 | h9; exact Or.inl (Or.inl h9); exact Or.inr ⟨(11, 13), List.mem_of_getElem? (i := 6) rfl, rfl, g13, rfl, h9⟩)
    rcases List.mem_cons.mp hq with rfl | hq
    · cases hg; cases hg'; exact Or.inl (Or.inl rfl)
    rcases List.mem_cons.mp hq with rfl | hq
    · cases hg; cases hg'; exact Or.inl (Or.inl rfl)
    cases hq)⟩
theorem zxHw9 : zb_wf z_TYs z_cl zyT [199, 200, 201, 202] [.inl 0, .inr (0, 12, 0), .inr (0, 12, 1), .inr (0, 12, 2)] = true := by decide +kernel
theorem zxHa9 : zu_lst zyT zu_NMm 199 = [(.inr (0, 126), 20), (.inr (2, 126), 21), (.inl 0, 22)] := by decide +kernel
theorem zxHb9 : zu_lst zyT zu_NMm 251 = [(.inr (0, 126), 36), (.inr (2, 126), 21), (.inl 0, 22)] := by decide +kernel
theorem zxH9 {l : Launch} {OB : Nat → Nat} {D : va_G} {DA : Nat → ClassId} {sz : Nat} {xs : Nat → Int32} {i : Nat} (hpr : zu_PRO z_f xs OB i) : zu_hand l OB D DA z_cl z_FT z_TYs z_PH sz z_KX z_TB "StarTalesLaw" code xs i (z_HC.getD 9 (0, (0, 0, 0), zxgh_undo_m, [], false)) := ⟨173, zxm320.1, zxm320.2.1, zxm320.2.2.2.1, zqd_1540, zu_lk (k := 320) (List.mem_of_getElem? (i := 75) rfl) zxt320, ⟨_, rfl, rfl⟩, rfl, zu_OKp (mm := zxm320) (RC := [.inl 0, .inr (0, 12, 0), .inr (0, 12, 1), .inr (0, 12, 2)]) (RF := [(0, 1)]) (RG := [(422, ((-2147483648), 2147483647)), (422, ((-2147483648), 2147483647)), (422, ((-2147483648), 2147483647))]) (AR := [.inl 0]) (RFo := [(0, none)]) (UP := []) (CP := [(0, 2)]) (RR := some (some (0, 1))) (fl := 16) (t0 := 199) (t1 := 251) (ph := 11) (NMS := zu_NMm) zxHw9 (by decide +kernel) rfl (zu_rc0_ok (by decide +kernel)) (by decide) (by decide +kernel) (by decide +kernel) (by decide +kernel) (by decide +kernel) (by decide +kernel) rfl (zu_phl rfl (by decide +kernel)) (by
  intro va F G hva hF hG hrg he hpx
  obtain ⟨_, rfl, rfl⟩ := hva
  obtain ⟨A, vals, hst, hpx⟩ := hpx
  rw [zxHa9] at he
  obtain ⟨p30, p31, p35, p36, p40⟩ := hpr
  obtain ⟨k, _, rfl, k1, k2, rfl⟩ := hF
  obtain ⟨nw, _, rfl, _, as, _, rfl, _, kp, _, rfl, _, rfl⟩ := hG
  have h20 : nw 126 = zu_i OB 20 := by
    obtain ⟨g, g1, g2⟩ := (show ∃ g, zn_l [nw, as, kp] 0 = some g ∧ g ((126 : Nat) : Int) = (Int32.ofNat (OB 20)).toInt from he _ (List.mem_of_getElem? (i := 0) rfl))
    cases g1
    exact g2
  have h21 : kp 126 = zu_i OB 21 := by
    obtain ⟨g, g1, g2⟩ := (show ∃ g, zn_l [nw, as, kp] 2 = some g ∧ g ((126 : Nat) : Int) = (Int32.ofNat (OB 21)).toInt from he _ (List.mem_of_getElem? (i := 1) rfl))
    cases g1
    exact g2
  have h22 : k = zu_i OB 22 := Option.some.inj (show some k = some (Int32.ofNat (OB 22)).toInt from he _ (List.mem_of_getElem? (i := 2) rfl))
  refine ⟨_, _, zsm320 (k := k) (nw := nw) (as := as) (kp := kp), ⟨rfl, rfl, rfl⟩, fun r F' G' hq => ?_⟩
  obtain ⟨hr, rfl, d, rfl, hd⟩ := hq
  rw [zxHb9]
  refine ⟨List.forall_mem_cons.mpr ⟨rfl, fun _ h => absurd h List.not_mem_nil⟩, ?_, (by rcases hr with rfl | rfl; exact ⟨0, rfl, by decide, by decide⟩; exact ⟨1, rfl, by decide, by decide⟩), List.forall_mem_cons.mpr ⟨⟨d, rfl, (by have h9 := hd 126 (by decide) (by decide); rw [h20, h21, h22] at h9; exact h9.trans p36.symm)⟩, List.forall_mem_cons.mpr ⟨he _ (List.mem_of_getElem? (i := 1) rfl), List.forall_mem_cons.mpr ⟨he _ (List.mem_of_getElem? (i := 2) rfl), fun _ h => absurd h List.not_mem_nil⟩⟩⟩, fun _ _ h => (by cases h)⟩
  · intro q hq g g' hg hg' i i0 i1
    rcases List.mem_cons.mp hq with rfl | hq
    · cases hg; cases hg'; exact (by have h9 := hd i i0 (by have : i < ((422 : Nat) : Int) := i1; omega); by_cases e9 : k ≠ 0; rw [if_pos e9] at h9; exact Or.inr ⟨(0, 2), List.mem_cons_self, rfl, kp, rfl, h9⟩; rw [if_neg e9] at h9; exact Or.inl (Or.inl h9))
    rcases List.mem_cons.mp hq with rfl | hq
    · cases hg; cases hg'; exact Or.inl (Or.inl rfl)
    rcases List.mem_cons.mp hq with rfl | hq
    · cases hg; cases hg'; exact Or.inl (Or.inl rfl)
    cases hq)⟩
