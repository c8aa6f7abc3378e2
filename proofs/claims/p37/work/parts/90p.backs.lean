/-! For begins and again, and the other calls by hand. -/
abbrev zu_RCm : List zbC := [.inl 0, .inr (0, 12, 0), .inr (0, 12, 1), .inr (0, 12, 2)]
abbrev zu_NMm : List (Nat × Nat) := [(0, 16), (1, 12), (2, 13), (3, 14)]
abbrev zu_RGm : List (Nat × zR) := [(422, (-2147483648, 2147483647)), (422, (-2147483648, 2147483647)), (422, (-2147483648, 2147483647))]
theorem zu_toOK {TBL : List Cond} {cl : List vw_C} {FT : Nat → Nat → FieldType} {TY : List zTy} {PHI : List (List Nat)} {KXf : (Nat → Nat) → Nat → State → Heap → Prop} {y : MethodName} {bytes : ByteArray} {maxL : Nat} {ret : Option FieldType} {g : zSig}
    (h : ∀ (l : Launch) (OB : Nat → Nat) (D : va_G) (DA : Nat → ClassId) (sz : Nat) (T : zTp), Met l y (Cond.code y bytes maxL ret :: TBL) { frames := (g_rm g).1, cells := (g_mk g).1, slots := (g_mk g).2, locals := (g_rm g).2 } (fun a U => z_Pre OB D DA cl FT TY sz (KXf OB sz) g T a U ∧ True) (fun a st o t => z_Post OB D DA cl TY PHI sz g T a st o t ∧ ∀ v : Option Value, o = .returned v → True) (g_mk g).1 (g_mk g).2 (fun q => sz ≤ q)) : z_OK TBL cl FT TY PHI KXf y bytes maxL ret g := by
  intro l OB D DA sz T p e hadm hf1 hf2 s m args below hfr happ hPre hK0
  obtain ⟨n, o, k1, k2, k3, k4, k5⟩ := h l OB D DA sz T p e hadm hf1 hf2 s m args below hfr happ ⟨hPre, trivial⟩ hK0
  exact ⟨n, o, k1, k2, k3, k4.1, k5⟩
def zu_phc (PHI : List (List Nat)) (ph t0 t1 : Nat) : Bool := match ph with
  | 0 => Nat.beq t0 t1
  | k + 1 => (List.range (PHI.getD k []).length).all (fun t => Nat.beq ((PHI.getD k []).getD t t) (cond (Nat.beq t t0) t1 t)) && (Nat.blt t0 (PHI.getD k []).length || Nat.beq t0 t1)
theorem zu_phl {PHI : List (List Nat)} {ph t0 t1 : Nat} (hb : Nat.blt ph 1000 = true) (h : zu_phc PHI ph t0 t1 = true) : ∀ t, z_phi PHI ph t = if t = t0 then t1 else t := by
  intro t
  have e : z_phi PHI ph t = z_ph1 PHI ph t := by unfold z_phi; rw [hb]; rfl
  rw [e]
  match ph, h with
  | 0, h =>
    have h : Nat.beq t0 t1 = true := h
    show t = _
    by_cases e : t = t0
    · rw [if_pos e, e, z_beq h]
    · rw [if_neg e]
  | k + 1, h =>
    have h : ((List.range (PHI.getD k []).length).all (fun t => Nat.beq ((PHI.getD k []).getD t t) (cond (Nat.beq t t0) t1 t)) && (Nat.blt t0 (PHI.getD k []).length || Nat.beq t0 t1)) = true := h
    rw [Bool.and_eq_true] at h
    show (PHI.getD k []).getD t t = _
    by_cases hlt : t < (PHI.getD k []).length
    · have h1 := z_beq (List.all_eq_true.mp h.1 t (List.mem_range.mpr hlt))
      rw [h1]
      by_cases e : t = t0
      · rw [if_pos e, e, Nat.beq_refl]; rfl
      · have : Nat.beq t t0 = false := by
          cases hb : Nat.beq t t0 with
          | false => rfl
          | true => exact absurd (z_beq hb) e
        rw [if_neg e, this]; rfl
    · have e2 : (PHI.getD k []).getD t t = t := by
        rw [List.getD_eq_getElem?_getD, List.getElem?_eq_none (by omega)]; rfl
      rw [e2]
      by_cases e : t = t0
      · rw [if_pos e]
        rw [Bool.or_eq_true] at h
        rcases h.2 with h2 | h2
        · have := z_blt h2; omega
        · rw [e, z_beq h2]
      · rw [if_neg e]
def zu_rc0 (RC : List zbC) (NT : List Nat) (t0 : Nat) : Bool := (List.range RC.length).all (fun c => match RC[c]? with
  | some (.inl i) => Nat.beq i 0 && (match NT[c]? with
    | some t => Nat.beq t t0
    | none => false)
  | _ => true)
theorem zu_rc0_ok {RC : List zbC} {NT : List Nat} {t0 : Nat} (h : zu_rc0 RC NT t0 = true) : ∀ c i : Nat, RC[c]? = some (.inl i) → i = 0 ∧ NT[c]? = some t0 := by
  intro c i hc
  have h1 := List.all_eq_true.mp h c (List.mem_range.mpr (List.getElem?_eq_some_iff.mp hc).1)
  rw [hc] at h1
  have h1 : (Nat.beq i 0 && (match NT[c]? with
    | some t => Nat.beq t t0
    | none => false)) = true := h1
  rw [Bool.and_eq_true] at h1
  refine ⟨z_beq h1.1, ?_⟩
  cases ht : NT[c]? with
  | none => rw [ht] at h1; cases h1.2
  | some t => rw [ht] at h1; rw [z_beq h1.2]
section ZUMV
variable {OB : Nat → Nat} {k : Int} {nw as kp d : Int → Int}
theorem zu_cp12 (hd : ∀ j : Int, 0 ≤ j → j < 422 → d j = nw j) : zu_oU zyT [] [(1, 0)] [nw, as, kp] [nw, d, kp] := by
  intro q hq g g' hg hg' i i0 i1
  rcases List.mem_cons.mp hq with rfl | hq
  · cases hg; cases hg'; exact Or.inl (Or.inl rfl)
  rcases List.mem_cons.mp hq with rfl | hq
  · cases hg; cases hg'
    exact Or.inr ⟨(1, 0), List.mem_cons_self, rfl, nw, rfl, hd i i0 (by have : i < ((422 : Nat) : Int) := i1; omega)⟩
  rcases List.mem_cons.mp hq with rfl | hq
  · cases hg; cases hg'; exact Or.inl (Or.inl rfl)
  cases hq
theorem zu_cp21 (hd : ∀ j : Int, 0 ≤ j → j < 422 → d j = as j) : zu_oU zyT [] [(0, 1)] [nw, as, kp] [d, as, kp] := by
  intro q hq g g' hg hg' i i0 i1
  rcases List.mem_cons.mp hq with rfl | hq
  · cases hg; cases hg'
    exact Or.inr ⟨(0, 1), List.mem_cons_self, rfl, as, rfl, hd i i0 (by have : i < ((422 : Nat) : Int) := i1; omega)⟩
  rcases List.mem_cons.mp hq with rfl | hq
  · cases hg; cases hg'; exact Or.inl (Or.inl rfl)
  rcases List.mem_cons.mp hq with rfl | hq
  · cases hg; cases hg'; exact Or.inl (Or.inl rfl)
  cases hq
theorem zu_mv12 (he : zu_ent OB [k] [nw, as, kp] [(.inr (0, 126), 20), (.inr (2, 126), 21), (.inl 0, 22)]) (hd : ∀ j : Int, 0 ≤ j → j < 422 → d j = nw j) : zu_ent OB [k] [nw, d, kp] [(.inr (0, 126), 20), (.inr (2, 126), 21), (.inl 0, 22), (.inr (1, 126), 20)] := by
  have h0 := he _ (List.mem_of_getElem? (i := 0) rfl)
  have h1 := he _ (List.mem_of_getElem? (i := 1) rfl)
  have h2 := he _ (List.mem_of_getElem? (i := 2) rfl)
  intro u hu
  rcases List.mem_cons.mp hu with rfl | hu
  · exact h0
  rcases List.mem_cons.mp hu with rfl | hu
  · exact h1
  rcases List.mem_cons.mp hu with rfl | hu
  · exact h2
  rcases List.mem_cons.mp hu with rfl | hu
  · obtain ⟨g, g1, g2⟩ := (show ∃ g, zn_l [nw, as, kp] 0 = some g ∧ g ((126 : Nat) : Int) = (Int32.ofNat (OB 20)).toInt from h0)
    cases g1
    exact ⟨d, rfl, (hd 126 (by decide) (by decide)).trans g2⟩
  cases hu
theorem zu_mv21 (he : zu_ent OB [k] [nw, as, kp] [(.inr (0, 126), 20), (.inr (2, 126), 21), (.inl 0, 22), (.inr (1, 126), 20)]) (hd : ∀ j : Int, 0 ≤ j → j < 422 → d j = as j) : zu_ent OB [k] [d, as, kp] [(.inr (0, 126), 20), (.inr (2, 126), 21), (.inl 0, 22), (.inr (1, 126), 20)] := by
  have h1 := he _ (List.mem_of_getElem? (i := 1) rfl)
  have h2 := he _ (List.mem_of_getElem? (i := 2) rfl)
  have h3 := he _ (List.mem_of_getElem? (i := 3) rfl)
  intro u hu
  rcases List.mem_cons.mp hu with rfl | hu
  · obtain ⟨g, g1, g2⟩ := (show ∃ g, zn_l [nw, as, kp] 1 = some g ∧ g ((126 : Nat) : Int) = (Int32.ofNat (OB 20)).toInt from h3)
    cases g1
    exact ⟨d, rfl, (hd 126 (by decide) (by decide)).trans g2⟩
  rcases List.mem_cons.mp hu with rfl | hu
  · exact h1
  rcases List.mem_cons.mp hu with rfl | hu
  · exact h2
  rcases List.mem_cons.mp hu with rfl | hu
  · exact h3
  cases hu
end ZUMV
