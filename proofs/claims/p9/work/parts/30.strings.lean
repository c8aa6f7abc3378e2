/-! The length of a string constant, by hand. -/
def zs_K (own tx : String) (k n : Nat) (OB : Nat → Nat) (sz : Nat) (U : State) (H : Heap) : Prop := ∃ (adV : Nat) (f : Nat → Value), vk_R own k tx (OB 1) U ∧ va_O "java/lang/String" (OB 1) (fun q => sz ≤ q) U H ∧ va_OF "java/lang/String" "coder" "B" (.int 0) (OB 1) (fun q => sz ≤ q) U H ∧ va_OF "java/lang/String" "value" "[B" (.ref adV) (OB 1) (fun q => sz ≤ q) U H ∧ va_T .byte adV n f (fun q => sz ≤ q) U H ∧ va_Z "java/lang/String" "COMPACT_STRINGS" "Z" (.int 1) (fun q => sz ≤ q) U H
theorem zs_K_p {own tx : String} {k n : Nat} {OB : Nat → Nat} {sz : Nat} : z_KXp sz (zs_K own tx k n OB sz) := by
  refine ⟨fun s U H h hW => ?_, fun s H H1 h _ hq => ?_, fun u U H hvm h => ?_⟩
  · obtain ⟨adV, f, k1, k2, k3, k4, k5, k6⟩ := h
    exact ⟨adV, f, vk_R.warm hW k1, va_O.moved hW.alike k2, va_OF.moved hW.alike k3, va_OF.moved hW.alike k4, va_T.moved hW.alike k5, va_Z.moved hW.alike k6⟩
  · obtain ⟨adV, f, k1, k2, k3, k4, k5, k6⟩ := h
    exact ⟨adV, f, k1, k2.kept hq, k3.kept hq, k4.kept hq, k5.kept hq, k6.kept hq⟩
  · obtain ⟨adV, f, k1, k2, k3, k4, k5, k6⟩ := h
    have ha : u.vm.Alike U.vm := by rw [hvm]; exact Vm.Alike.refl _
    exact ⟨adV, f, vk_R.same hvm k1, va_O.moved ha k2, va_OF.moved ha k3, va_OF.moved ha k4, va_T.moved ha k5, va_Z.moved ha k6⟩
def zs_P (own tx : String) (k n : Nat) (OB : Nat → Nat) (sz : Nat) (args : Array Value) (U : State) : Prop := args = ([.ref (OB 1)] : List Value).toArray ∧ zs_K own tx k n OB sz U U.heap
theorem zs_blind {own tx : String} {k n : Nat} {OB : Nat → Nat} {sz : Nat} : FrameBlind (zs_P own tx k n OB sz) := fun a U gf mk h => ⟨h.1, zs_K_p.2.2 U (U.calling gf mk a) _ rfl h.2⟩
abbrev zs_yC : MethodName := ⟨"java/lang/String", "coder", "()B"⟩
abbrev zs_yL : MethodName := ⟨"java/lang/String", "length", "()I"⟩
def zs_w : List Cond := [Cond.fieldLink "java/lang/String" 38 "java/lang/String" "COMPACT_STRINGS" "Z", Cond.fieldLink "java/lang/String" 15 "java/lang/String" "coder" "B", Cond.fieldLink "java/lang/String" 9 "java/lang/String" "value" "[B", Cond.methodLink "java/lang/String" 335 zs_yC, Cond.instanceMethod zs_yC, Cond.selects "java/lang/String" zs_yC zs_yC, Cond.initialized "java/lang/String", Cond.code zs_yC prog_18_method_152_code 1 (some .byte), Cond.code zs_yL prog_18_method_54_code 1 (some .int), Cond.instanceMethod zs_yL, Cond.selects "java/lang/String" zs_yL zs_yL]
section ZSTR
variable {TBL : List Cond} {own tx : String} {k n : Nat} {OB : Nat → Nat} {sz : Nat}
theorem zs_coder (l : Launch) (hw : ∀ w ∈ zs_w, w ∈ TBL) : Met l zs_yC (Cond.code zs_yC prog_18_method_152_code 1 (some .byte) :: TBL) { frames := 0, cells := 0, slots := 0, locals := 0 } (zs_P own tx k n OB sz) (QcRead 0) 0 0 (fun _ => False) := by
  refine Met.ofW (cc := prog_18_method_152_code) (maxL := 1) (ret := some .byte) rfl rfl ?_
  intro p e s m args below meth c s₁ B hml hPre
  obtain ⟨rfl, adV, f, k1, k2, k3, k4, k5, k6⟩ := hPre
  have hts : ∀ w ∈ (Cond.code zs_yC prog_18_method_152_code 1 (some .byte) :: TBL), w.before ([.ref (OB 1)] : List Value).toArray s = true := atoms_spec (ws := Cond.code zs_yC prog_18_method_152_code 1 (some .byte) :: TBL) B.pre
  have hw2 : ∀ w ∈ zs_w, w.before ([.ref (OB 1)] : List Value).toArray s = true := fun w h => hts w (List.mem_cons_of_mem _ (hw w h))
  have hown : s.vm.findClass "java/lang/String" = some m.cls := findClass_of_methodNamed B.named
  rw [lg_entry_eq]
  have hS : va_S (fun q => sz ≤ q) s.heap s.heap [] := va_S.rf
  have hl := (lv_entry [.ref (OB 1)] (n := 1) (show (lg_sl [Value.ref (OB 1)]).length ≤ 1 from Nat.le_refl 1)).2.2 (0, .ref (OB 1)) (by simp [lv_args])
  refine va_gets B.exec B.bytes k6 hS hown (hw2 _ (List.mem_of_getElem? (i := 0) rfl)) (fun x h => h) (index := 38) (by decide +kernel) ?_
  refine lv_if_eq B.exec B.bytes (tgt := 13) (off := 10) (by decide +kernel) (by decide) (fun h => absurd h (by decide)) (fun _ => ?_)
  refine lv_aload_n B.exec B.bytes (k := 0) (i := 0) (by decide +kernel) rfl hl ?_
  refine vk_getf B.exec B.bytes k3 hS hown (hw2 _ (List.mem_of_getElem? (i := 1) rfl)) (fun x h => h) (index := 15) (by decide +kernel) ?_
  refine lv_goto B.exec B.bytes (off := 4) (tgt := 14) (by decide +kernel) (by decide) ?_
  exact W.zret B.exec B.bytes B.returns rfl (fun t ht _ => ⟨rfl, ht⟩) (fun q hq => absurd hq List.not_mem_nil) (by decide +kernel) B.notSynchronized
theorem zs_length (l : Launch) (hw : ∀ w ∈ zs_w, w ∈ TBL) (hgd : ∀ w ∈ TBL, z_gw w = true) (hn : n < 2147483648) : Met l zs_yL (Cond.code zs_yL prog_18_method_54_code 1 (some .int) :: TBL) { frames := 1, cells := 0, slots := 0, locals := 20 } (zs_P own tx k n OB sz) (QcRead (Int32.ofNat n)) 0 0 (fun _ => False) := by
  refine Met.ofW (cc := prog_18_method_54_code) (maxL := 1) (ret := some .int) rfl rfl ?_
  intro p e s m args below meth c s₁ B hml hPre
  obtain ⟨rfl, hK⟩ := hPre
  have hK0 := hK
  obtain ⟨adV, f, k1, k2, k3, k4, k5, k6⟩ := hK
  have hts : ∀ w ∈ (Cond.code zs_yL prog_18_method_54_code 1 (some .int) :: TBL), w.before ([.ref (OB 1)] : List Value).toArray s = true := atoms_spec (ws := Cond.code zs_yL prog_18_method_54_code 1 (some .int) :: TBL) B.pre
  have hw2 : ∀ w ∈ zs_w, w.before ([.ref (OB 1)] : List Value).toArray s = true := fun w h => hts w (List.mem_cons_of_mem _ (hw w h))
  have hown : s.vm.findClass "java/lang/String" = some m.cls := findClass_of_methodNamed B.named
  rw [lg_entry_eq]
  have hS : va_S (fun q => sz ≤ q) s.heap s.heap [] := va_S.rf
  have hlv := lv_entry [.ref (OB 1)] (n := 1) (show (lg_sl [Value.ref (OB 1)]).length ≤ 1 from Nat.le_refl 1)
  have hl := hlv.2.2 (0, .ref (OB 1)) (by simp [lv_args])
  have hwsG : ∀ w ∈ (Cond.code zs_yC prog_18_method_152_code 1 (some .byte) :: TBL), ∀ (a' : Array Value) (U : State), s.WarmedH U.vm → w.before a' U = true := by
    refine z_pay hts (fun w h => ?_)
    rcases List.mem_cons.mp h with rfl | h
    · exact ⟨List.mem_cons_of_mem _ (hw _ (List.mem_of_getElem? (i := 7) rfl)), rfl⟩
    · exact ⟨List.mem_cons_of_mem _ h, hgd w h⟩
  refine lv_aload_n B.exec B.bytes (k := 0) (i := 0) (by decide +kernel) rfl hl ?_
  refine vk_getf B.exec B.bytes k4 hS hown (hw2 _ (List.mem_of_getElem? (i := 2) rfl)) (fun x h => h) (index := 9) (by decide +kernel) ?_
  refine va_tlen B.exec B.bytes k5 hS rfl (by decide +kernel) ?_
  have d1 : decode prog_18_method_54_code 6 = .ok (.invokevirtual 335, 3) := by decide +kernel
  have d2 : decode prog_18_method_54_code 9 = .ok (.ishr, 1) := by decide +kernel
  have d3 : decode prog_18_method_54_code 10 = .ok (.ireturn, 1) := by decide +kernel
  refine lv_aload_n B.exec B.bytes (k := 0) (i := 0) (by decide +kernel) rfl hl ?_
  refine W.callR (W.runV (b := OB 1) (As := []) (rest := [.int (Int32.ofNat n)]) (C := "java/lang/String") (n := 0) (index := 335) ⟨B.exec, B.bytes, hml, hown, hts⟩ (zs_coder (own := own) (tx := tx) (k := k) (n := n) (OB := OB) (sz := sz) l hw) ⟨⟨rfl, rfl, Nat.le_refl _, Nat.le_refl _, hwsG, List.mem_cons_self, hw2 _ (List.mem_of_getElem? (i := 7) rfl), hw2 _ (List.mem_of_getElem? (i := 6) rfl), by decide, fun sig h => ?_, hw2 _ (List.mem_of_getElem? (i := 3) rfl)⟩, hw2 _ (List.mem_of_getElem? (i := 4) rfl), hw2 _ (List.mem_of_getElem? (i := 5) rfl)⟩ ⟨zs_blind, ?_, fun U hU hW => ⟨rfl, ?_⟩⟩ rfl rfl ?_ rfl ?_ d1 ⟨Nat.le_refl _, Nat.le_refl _⟩) ?_
  · have : (parseMethodDescriptor "()B").map (fun d => d.parameters.length) = some 0 := by decide +kernel
    rw [h] at this
    exact (Option.some.inj this).symm
  · obtain ⟨cell, y1, y2, y3, -⟩ := k2
    exact ⟨cell, y1, y2, y3⟩
  · rw [hU]
    exact zs_K_p.1 s U s.heap hK0 hW
  · exact hlv.1
  · show 2 * 0 + _ ≤ 8
    exact (by decide : 2 * 0 + 1 ≤ 8)
  · refine lv_ishr (pc := 9) B.exec B.bytes d2 ?_
    have e0 : (Int32.ofNat n) >>> ((0 : Int32) &&& 31) = Int32.ofNat n := sc_shr0 hn
    rw [e0]
    exact W.iret B.exec B.bytes B.returns (fun t ht _ => ⟨rfl, ht⟩) (fun q hq => absurd hq List.not_mem_nil) d3 B.notSynchronized
/-- the hook: a constant and its length, two instructions -/
def zs_hk (g : zSig) (p0 : Nat) (n : Int) : zHk := fun pc st => cond (Nat.beq pc p0) (match z_csum st (z_S st) with
  | some k => cond (Nat.ble k 8 && (Nat.ble (z_C st).1 (g_mk g).1 && Nat.ble (z_C st).2 (g_mk g).2)) ((z_iconst st n).map (fun s => [(p0 + 5, s)])) none
  | none => none) none
theorem zs_hk_ok {cl : List vw_C} {TY : List zTy} {PHI : List (List Nat)} {mm : zM} {g : zSig} {p0 i : Nat} {KXf : (Nat → Nat) → Nat → State → Heap → Prop} (hKX : ∀ OB sz s H, KXf OB sz s H → zs_K mm.1.cls tx k n OB sz s H) (hw : ∀ w ∈ zs_w, w ∈ TBL) (hgd : ∀ w ∈ TBL, z_gw w = true) (hn : n < 2147483648) (hlink : Cond.methodLink mm.1.cls i zs_yL ∈ TBL) (hd1 : decode mm.2.1 p0 = .ok (.ldc k, 2)) (hd2 : decode mm.2.1 (p0 + 2) = .ok (.invokevirtual i, 3)) (hR : 2 ≤ (g_rm g).1 ∧ 40 ≤ (g_rm g).2) : z_hok TBL cl TY PHI KXf mm g (zs_hk g p0 (n : Int)) := by
  intro p l e s m args below meth c Q OB D DA sz raw T0 H0 env0 good hg hx hb hml hD hsz hX pc st L hL hall
  unfold zs_hk at hL
  cases hpc : Nat.beq pc p0 with
  | false => rw [hpc] at hL; cases hL
  | true =>
    rw [hpc] at hL
    have hpc := z_beq hpc
    subst hpc
    have hL : (match z_csum st (z_S st) with
      | some k => cond (Nat.ble k 8 && (Nat.ble (z_C st).1 (g_mk g).1 && Nat.ble (z_C st).2 (g_mk g).2)) ((z_iconst st (n : Int)).map (fun s => [(pc + 5, s)])) none
      | none => none) = some L := hL
    split at hL
    · rename_i kk hkk
      cases hk8 : (Nat.ble kk 8 && (Nat.ble (z_C st).1 (g_mk g).1 && Nat.ble (z_C st).2 (g_mk g).2)) with
      | false => rw [hk8] at hL; cases hL
      | true =>
        rw [hk8] at hL
        simp only [Bool.and_eq_true] at hk8
        obtain ⟨hk8, hk9, hk10⟩ := hk8
        have hL : (z_iconst st (n : Int)).map (fun s => [(pc + 5, s)]) = some L := hL
        cases hz : z_iconst st (n : Int) with
        | none => rw [hz] at hL; cases hL
        | some st' =>
          rw [hz] at hL
          cases hL
          have k0 := hall (pc + 5, st') (List.mem_singleton.mpr rfl)
          have k0 : good (pc + 5) st' := k0
          obtain ⟨hts, hown, hK, htys⟩ := hD
          have hw2 : ∀ w ∈ zs_w, w.before args s = true := fun w h => hts w (List.mem_cons_of_mem _ (hw w h))
          refine (hg _ _).mpr fun T H locs env ls stk hs => ?_
          have hmem := hs.2.2.2.2.2.2.2.2.2
          have hcat := z_csum_ok hkk hs hs.2.2.2.1
          have hXH : zs_K mm.1.cls tx k n OB sz s H := zs_K_p.2.1 s H0 H (hKX _ _ _ _ hX) hmem.2.2.2.2.1 hmem.2.2.2.2.2.1
          have hXH0 := hXH
          obtain ⟨adV, f, k1, k2, k3, k4, k5, k6⟩ := hXH
          have hwsG : ∀ w ∈ (Cond.code zs_yL prog_18_method_54_code 1 (some .int) :: TBL), ∀ (a' : Array Value) (U : State), s.WarmedH U.vm → w.before a' U = true := by
            refine z_pay hts (fun w h => ?_)
            rcases List.mem_cons.mp h with rfl | h
            · exact ⟨List.mem_cons_of_mem _ (hw _ (List.mem_of_getElem? (i := 8) rfl)), rfl⟩
            · exact ⟨List.mem_cons_of_mem _ h, hgd w h⟩
          refine va_ldcS hx hb hown k1 hd1 ?_
          obtain ⟨lv, z1, _⟩ := hs.2.2.1
          have hlsz : ls.size = mm.2.2.1 := z1.1
          refine W.callR (W.runV (b := OB 1) (As := []) (rest := stk) (C := "java/lang/String") (n := 0) (index := i) ⟨hx, hb, hml, hown, hts⟩ (zs_length (own := mm.1.cls) (tx := tx) (k := k) (n := n) (OB := OB) (sz := sz) l hw hgd hn) ⟨⟨rfl, rfl, hR.1, hR.2, hwsG, List.mem_cons_self, hw2 _ (List.mem_of_getElem? (i := 8) rfl), hw2 _ (List.mem_of_getElem? (i := 6) rfl), by decide, fun sig h => ?_, hts _ (List.mem_cons_of_mem _ hlink)⟩, hw2 _ (List.mem_of_getElem? (i := 9) rfl), hw2 _ (List.mem_of_getElem? (i := 10) rfl)⟩ ⟨zs_blind, ?_, fun U hU hW => ⟨rfl, ?_⟩⟩ rfl rfl hlsz rfl ?_ hd2 ⟨?_, ?_⟩) ?_
          · have : (parseMethodDescriptor "()I").map (fun d => d.parameters.length) = some 0 := by decide +kernel
            rw [h] at this
            exact (Option.some.inj this).symm
          · obtain ⟨cell, y1, y2, y3, -⟩ := k2
            exact ⟨cell, y1, y2, y3⟩
          · rw [hU]
            exact zs_K_p.1 s U H hXH0 hW
          · exact lv_room (by rw [hcat]; exact Nat.le_of_ble_eq_true hk8)
          · exact Nat.le_of_ble_eq_true hk9
          · exact Nat.le_of_ble_eq_true hk10
          · obtain ⟨h1, rfl⟩ := z_cond hz
            have hv : (Int32.ofNat n).toInt = (n : Int) := Int32.toInt_ofNat_of_lt (by omega)
            have := (hg _ _).mp k0 T H locs _ ls _ (z_sat_psh hs hs.2.2.2.1 (c := .inl ((n : Int), (n : Int))) (v := .int (Int32.ofNat n)) ⟨_, rfl, by rw [z_in, hv]; exact ⟨Int.le_refl _, Int.le_refl _⟩⟩ (fun q hq => absurd hq List.not_mem_nil))
            exact this
    · cases hL
end ZSTR
