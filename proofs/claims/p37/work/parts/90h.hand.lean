/-! Contracts by hand at this OB: named cells, what is claimed before and behind. -/
def zu_nc (TY : List zTy) (y : zNL) (NT : List Nat) (RC : List zbC) (fl : Nat) (q : Nat × Nat) : Bool := match RC[q.1]? with
  | some (.inl i) => Nat.beq i 0 && Nat.beq q.2 fl
  | some (.inr u) => (n_R y).any (fun r => Nat.beq r.1 u.1 && Nat.beq r.2.1 u.2.1 && (Nat.beq r.2.2.1 u.2.2 && Nat.beq r.2.2.2 q.1)) && Nat.blt u.1 (n_N y) && (match NT[u.1]?, NT[q.1]? with
    | some t, some t2 => Nat.blt t2 500 && (match TY[t]? with
      | some (.inl o) => Nat.beq o.1 u.2.1 && (match o.2[u.2.2]? with
        | some (.inr (.inr k)) => Nat.beq k (2000 + 500 * q.2 + t2 + 1)
        | _ => false)
      | _ => false)
    | _, _ => false)
  | none => false
/-- where in the layout a claim's slot lies -/
def zu_pl (y : zNL) (NMS : List (Nat × Nat)) (q : Nat × Nat × ((Nat × Nat) ⊕ Nat) × Nat × Nat × Nat) : Option (Nat ⊕ (Nat × Nat)) := match NMS.find? (fun u => Nat.beq u.2 q.2.1) with
  | none => none
  | some u => (match q.2.2.1 with
    | .inl f => (match (n_I y).find? (fun i => Nat.beq i.1 u.1 && Nat.beq i.2.1 f.1 && Nat.beq i.2.2.1 f.2) with
      | some i => some (.inl i.2.2.2)
      | none => none)
    | .inr j => (match (n_A y).find? (fun a => Nat.beq a.1 u.1 && Nat.beq a.2.1 0 && Nat.blt j a.2.2.1) with
      | some a => some (.inr (a.2.2.2, j))
      | none => none))
def zu_tell (OB : Nat → Nat) (F : List Int) (G : List (Int → Int)) (w : Nat ⊕ (Nat × Nat)) (v : Nat) : Prop := match w with
  | .inl j => zn_l F j = some (Int32.ofNat (OB v)).toInt
  | .inr u => ∃ g, zn_l G u.1 = some g ∧ g (u.2 : Int) = (Int32.ofNat (OB v)).toInt
def zu_lst (y : zNL) (NMS : List (Nat × Nat)) (tf : Nat) : List ((Nat ⊕ (Nat × Nat)) × Nat) := zc_CL.filterMap (fun q => cond (Nat.beq q.2.2.2.2.2 tf) ((zu_pl y NMS q).map (fun w => (w, q.2.2.2.1))) none)
def zu_ent (OB : Nat → Nat) (F : List Int) (G : List (Int → Int)) (L : List ((Nat ⊕ (Nat × Nat)) × Nat)) : Prop := ∀ u ∈ L, zu_tell OB F G u.1 u.2
/-- a claim that a contract can't touch -/
def zu_ck1 (TY : List zTy) (y : zNL) (NT : List Nat) (q : Nat × Nat × ((Nat × Nat) ⊕ Nat) × Nat × Nat × Nat) : Bool := (List.range (n_N y)).all (fun c => match NT[c]? with
  | some t => !(Nat.beq t q.1) || (match q.2.2.1 with
    | .inl f => (match TY[t]? with
      | some (.inl o) => Nat.beq o.1 f.1 && Nat.blt f.2 o.2.length
      | _ => false) && (n_I y).all (fun i => !(Nat.beq i.2.1 f.1 && Nat.beq i.2.2.1 f.2))
    | .inr _ => false)
  | none => true)
def zu_ck (TY : List zTy) (y : zNL) (NT : List Nat) (NMS : List (Nat × Nat)) (fl t0 t1 : Nat) : Bool := zc_CL.all (fun q => (Nat.beq q.2.2.2.2.1 fl && !(Nat.beq q.2.2.2.2.2 t1)) || (!(Nat.beq q.2.2.2.2.2 t1) && !(Nat.beq q.1 t0) && zu_ck1 TY y NT q) ||
  (Nat.beq q.2.2.2.2.2 t1 && Nat.beq q.2.2.2.2.1 fl && (zc_CL.any (fun p => (Nat.beq p.2.2.2.2.1 fl && Nat.beq p.2.2.2.2.2 t0 && Nat.beq p.2.1 q.2.1 && zc_seq p.2.2.1 q.2.2.1) && ((Nat.beq p.1 q.1 && !(Nat.beq p.1 t0)) || (Nat.beq p.1 t0 && Nat.beq q.1 t1)) && ((zu_pl y NMS q).isSome || (Nat.beq p.2.2.2.1 q.2.2.2.1 && zu_ck1 TY y NT p))) || (NMS.any (fun u => Nat.beq u.2 q.2.1 && Nat.blt u.1 (n_N y) && (match NT[u.1]? with
    | some t => Nat.beq t q.1 && !(Nat.beq t t0)
    | none => false)) && (zu_pl y NMS q).isSome))))
section ZUHAND
variable {OB : Nat → Nat} {D : va_G} {DA : Nat → ClassId} {cl : List vw_C} {FT : Nat → Nat → FieldType} {TY : List zTy} {PHI : List (List Nat)} {T : zTp} {H H1 : Heap} {y : zNL} {NT : List Nat} {RC : List zbC} {A : Nat → Nat} {F F' : List Int} {G G' : List (Int → Int)} {fl t0 t1 ph : Nat} {NMS : List (Nat × Nat)}
theorem zu_nc_ok (hn : NMS.all (zu_nc TY y NT RC fl) = true) (hb : ∀ a t, T a = some t → ∃ ty, TY[t]? = some ty ∧ z_cell OB D DA cl T H a ty) (hA : ∀ c, c < n_N y → ∃ t, NT[c]? = some t ∧ T (A c) = some t) (hS : ∀ c : Nat, RC[c]? = some (.inl 0) → A c = OB fl) (hr : zn_rep D DA cl y A F G H) : ∀ q ∈ NMS, A q.1 = OB q.2 := by
  intro q hq
  have h := List.all_eq_true.mp hn q hq
  unfold zu_nc at h
  split at h
  · rename_i i hi
    rw [Bool.and_eq_true] at h
    rw [z_beq h.1] at hi
    rw [hS _ hi, z_beq h.2]
  · rename_i u hu
    rw [Bool.and_eq_true, Bool.and_eq_true] at h
    obtain ⟨⟨h1, h2⟩, h3⟩ := h
    obtain ⟨r, hrm, hr2⟩ := List.any_eq_true.mp h1
    simp only [Bool.and_eq_true] at hr2
    obtain ⟨⟨r1, r2⟩, r3, r4⟩ := hr2
    split at h3
    · rename_i t t2 ht ht2
      rw [Bool.and_eq_true] at h3
      obtain ⟨h4, h3⟩ := h3
      split at h3
      · rename_i o ho
        rw [Bool.and_eq_true] at h3
        obtain ⟨h5, h3⟩ := h3
        split at h3
        · rename_i k hk
          obtain ⟨ci, flds⟩ := o
          have ec : ci = u.2.1 := z_beq h5
          obtain ⟨t3, k1, k2⟩ := hA u.1 (z_blt h2)
          rw [ht] at k1
          cases k1
          obtain ⟨rr, m1, m2, m3⟩ := hr.2.2.1 r hrm
          rw [z_beq r1, z_beq r2, z_beq r3, z_beq r4] at m3
          rw [← ec] at m3
          have hv := zj_fld hb k2 ho hk m3
          have ek : k = 2000 + 500 * q.2 + t2 + 1 := z_beq h3
          subst ek
          exact Value.ref.inj (z_zn_g (z_blt h4) hv).1
        · cases h3
      · cases h3
    · cases h3
  · cases h
theorem zu_tell_in {q : Nat × Nat × ((Nat × Nat) ⊕ Nat) × Nat × Nat × Nat} {w : Nat ⊕ (Nat × Nat)} (hN : ∀ q ∈ NMS, A q.1 = OB q.2) (hr : zn_rep D DA cl y A F G H) (hp : zu_pl y NMS q = some w) (hs : z_sl H (OB q.2.1) (zc_s D q.2.2.1) (.int (Int32.ofNat (OB q.2.2.2.1)))) : zu_tell OB F G w q.2.2.2.1 := by
  unfold zu_pl at hp
  split at hp
  · cases hp
  · rename_i u hu
    have hu0 := List.find?_some hu
    have eu : u.2 = q.2.1 := z_beq hu0
    have ea : A u.1 = OB q.2.1 := by rw [hN u (List.mem_of_find?_eq_some hu), eu]
    split at hp
    · rename_i f hf
      split at hp
      · rename_i i hi
        cases hp
        have h1 := List.find?_some hi
        simp only [Bool.and_eq_true] at h1
        obtain ⟨⟨h2, h3⟩, h4⟩ := h1
        obtain ⟨r, x, m1, m2, m3, m4⟩ := hr.2.1 i (List.mem_of_find?_eq_some hi)
        rw [z_beq h2, ea, z_beq h3, z_beq h4] at m3
        have es : zc_s D q.2.2.1 = D.2 f.1 f.2 := by rw [hf]; rfl
        rw [es] at hs
        have := zj_fun hs m3
        cases this
        exact m4
      · cases hp
    · rename_i j hj
      split at hp
      · rename_i a ha
        cases hp
        have h1 := List.find?_some ha
        simp only [Bool.and_eq_true] at h1
        obtain ⟨⟨h2, h3⟩, h4⟩ := h1
        obtain ⟨f, g, m1, m2, m3⟩ := hr.2.2.2 a (List.mem_of_find?_eq_some ha)
        rw [z_beq h2, ea] at m1
        have es : zc_s D q.2.2.1 = j := by rw [hj]; rfl
        rw [es] at hs
        obtain ⟨x, x1, x2⟩ := m3 j (z_blt h4)
        have := zj_fun hs ⟨_, m1, rfl, arrV_read (DA a.2.1) f (z_blt h4)⟩
        rw [x1] at this
        cases this
        exact ⟨g, m2, x2.symm⟩
      · cases hp
theorem zu_tell_out {q : Nat × Nat × ((Nat × Nat) ⊕ Nat) × Nat × Nat × Nat} {w : Nat ⊕ (Nat × Nat)} (hN : ∀ q ∈ NMS, A q.1 = OB q.2) (hr : zn_rep D DA cl y A F G H) (hp : zu_pl y NMS q = some w) (hs : zu_tell OB F G w q.2.2.2.1) : z_sl H (OB q.2.1) (zc_s D q.2.2.1) (.int (Int32.ofNat (OB q.2.2.2.1))) := by
  unfold zu_pl at hp
  split at hp
  · cases hp
  · rename_i u hu
    have hu0 := List.find?_some hu
    have eu : u.2 = q.2.1 := z_beq hu0
    have ea : A u.1 = OB q.2.1 := by rw [hN u (List.mem_of_find?_eq_some hu), eu]
    split at hp
    · rename_i f hf
      split at hp
      · rename_i i hi
        cases hp
        have h1 := List.find?_some hi
        simp only [Bool.and_eq_true] at h1
        obtain ⟨⟨h2, h3⟩, h4⟩ := h1
        obtain ⟨r, x, m1, m2, m3, m4⟩ := hr.2.1 i (List.mem_of_find?_eq_some hi)
        rw [z_beq h2, ea, z_beq h3, z_beq h4] at m3
        have es : zc_s D q.2.2.1 = D.2 f.1 f.2 := by rw [hf]; rfl
        rw [es]
        have hs : zn_l F i.2.2.2 = some (Int32.ofNat (OB q.2.2.2.1)).toInt := hs
        rw [m4] at hs
        have : x = Int32.ofNat (OB q.2.2.2.1) := Int32.toInt_inj.mp (Option.some.inj hs)
        rw [← this]
        exact m3
      · cases hp
    · rename_i j hj
      split at hp
      · rename_i a ha
        cases hp
        have h1 := List.find?_some ha
        simp only [Bool.and_eq_true] at h1
        obtain ⟨⟨h2, h3⟩, h4⟩ := h1
        obtain ⟨f, g, m1, m2, m3⟩ := hr.2.2.2 a (List.mem_of_find?_eq_some ha)
        rw [z_beq h2, ea] at m1
        have es : zc_s D q.2.2.1 = j := by rw [hj]; rfl
        rw [es]
        obtain ⟨x, x1, x2⟩ := m3 j (z_blt h4)
        obtain ⟨g2, n1, n2⟩ := (show ∃ g, zn_l G a.2.2.2 = some g ∧ g (j : Int) = (Int32.ofNat (OB q.2.2.2.1)).toInt from hs)
        rw [m2] at n1
        cases n1
        have : x = Int32.ofNat (OB q.2.2.2.1) := Int32.toInt_inj.mp (x2.trans n2)
        rw [← this, ← x1]
        exact ⟨_, m1, rfl, arrV_read (DA a.2.1) f (z_blt h4)⟩
      · cases hp
theorem zu_cl1 {q : Nat × Nat × ((Nat × Nat) ⊕ Nat) × Nat × Nat × Nat} {v : Value} (hk : zu_ck1 TY y NT q = true) (hw : zb_wf TY cl y NT RC = true) (hb : ∀ a t, T a = some t → ∃ ty, TY[t]? = some ty ∧ z_cell OB D DA cl T H a ty) (hA : ∀ c, c < n_N y → ∃ t, NT[c]? = some t ∧ T (A c) = some t) (hf : zn_frm D cl y A H H1)
    (hT1 : T (OB q.2.1) = some q.1) (old : z_sl H (OB q.2.1) (zc_s D q.2.2.1) v) : z_sl H1 (OB q.2.1) (zc_s D q.2.2.1) v := by
  by_cases hn : ∃ c, c < n_N y ∧ A c = OB q.2.1
  · obtain ⟨c, c1, c2⟩ := hn
    obtain ⟨t, k1, k2⟩ := hA c c1
    have et : t = q.1 := by rw [c2, hT1] at k2; exact (Option.some.inj k2).symm
    have h1 := List.all_eq_true.mp hk c (List.mem_range.mpr c1)
    rw [k1] at h1
    have h1 : (!(Nat.beq t q.1) || (match q.2.2.1 with
      | .inl f => (match TY[t]? with
        | some (.inl o) => Nat.beq o.1 f.1 && Nat.blt f.2 o.2.length
        | _ => false) && (n_I y).all (fun i => !(Nat.beq i.2.1 f.1 && Nat.beq i.2.2.1 f.2))
      | .inr _ => false)) = true := h1
    have e0 : Nat.beq t q.1 = true := by rw [et]; exact Nat.beq_refl _
    rw [e0] at h1
    simp only [Bool.not_true, Bool.false_or] at h1
    split at h1
    · rename_i f hf2
      rw [Bool.and_eq_true] at h1
      obtain ⟨h2, h3⟩ := h1
      split at h2
      · rename_i o ho
        rw [Bool.and_eq_true] at h2
        obtain ⟨oc, flds⟩ := o
        have eo : oc = f.1 := z_beq h2.1
        subst eo
        have es : zc_s D q.2.2.1 = D.2 f.1 f.2 := by rw [hf2]; rfl
        rw [es] at old ⊢
        rw [← c2] at old ⊢
        refine zb_slk hw hb hA hf k2 ho (z_blt h2.2) (fun i hi e1 e2 => ?_) old
        have h4 := List.all_eq_true.mp h3 i hi
        rw [e1, e2, Nat.beq_refl, Nat.beq_refl] at h4
        cases h4
      · cases h2
    · cases h1
  · obtain ⟨cell, x1, x2⟩ := old
    exact ⟨cell, by rw [hf.2.1 _ (fun c hc e => hn ⟨c, hc, e⟩)]; exact x1, x2⟩
/-- what is claimed behind -/
theorem zu_claims {phi : Nat → Nat} (hk : zu_ck TY y NT NMS fl t0 t1 = true) (hphi : ∀ t, phi t = if t = t0 then t1 else t) (hfl : T (OB fl) = some t0) (hw : zb_wf TY cl y NT RC = true) (hb : ∀ a t, T a = some t → ∃ ty, TY[t]? = some ty ∧ z_cell OB D DA cl T H a ty) (hA : ∀ c, c < n_N y → ∃ t, NT[c]? = some t ∧ T (A c) = some t) (hf : zn_frm D cl y A H H1)
    (hN : ∀ q ∈ NMS, A q.1 = OB q.2) (hr1 : zn_rep D DA cl y A F' G' H1) (he : zu_ent OB F' G' (zu_lst y NMS t1)) (hc : zj_cl OB D T H) : zj_cl OB D (fun a => (T a).map phi) H1 := by
  unfold zu_ck at hk
  have p0 : phi t0 = t1 := by rw [hphi, if_pos rfl]
  have pn : ∀ t, t ≠ t0 → phi t = t := fun t h => by rw [hphi, if_neg h]
  intro q hq hT
  have hT : (T (OB q.2.2.2.2.1)).map phi = some q.2.2.2.2.2 := hT
  cases hTu : T (OB q.2.2.2.2.1) with
  | none => rw [hTu] at hT; cases hT
  | some u =>
    rw [hTu] at hT
    have hT : phi u = q.2.2.2.2.2 := Option.some.inj hT
    have h1 := List.all_eq_true.mp hk q hq
    rw [Bool.or_eq_true, Bool.or_eq_true] at h1
    rcases h1 with (h1 | h1) | h1
    · exfalso
      rw [Bool.and_eq_true] at h1
      rw [z_beq h1.1, hfl] at hTu
      have eu := Option.some.inj hTu
      rw [← eu, p0] at hT
      exact zu_nb h1.2 hT.symm
    · rw [Bool.and_eq_true, Bool.and_eq_true] at h1
      obtain ⟨⟨h2, h3⟩, h4⟩ := h1
      have hu : u ≠ t0 := fun e => by rw [e, p0] at hT; exact zu_nb h2 hT.symm
      rw [pn u hu] at hT
      rw [hT] at hTu
      obtain ⟨k1, k2⟩ := hc q hq hTu
      refine ⟨?_, zu_cl1 h4 hw hb hA hf k1 k2⟩
      show (T (OB q.2.1)).map phi = some q.1
      rw [k1]
      show some (phi q.1) = some q.1
      rw [pn _ (zu_nb h3)]
    · rw [Bool.and_eq_true, Bool.and_eq_true] at h1
      obtain ⟨⟨h2, h3⟩, h4⟩ := h1
      rw [Bool.or_eq_true] at h4
      rcases h4 with h4 | h4
      rotate_left
      · rw [Bool.and_eq_true] at h4
        obtain ⟨h5, h6⟩ := h4
        obtain ⟨w0, hw0, h7⟩ := List.any_eq_true.mp h5
        rw [Bool.and_eq_true, Bool.and_eq_true] at h7
        obtain ⟨⟨f1, f2⟩, f3⟩ := h7
        obtain ⟨t, k1, k2⟩ := hA w0.1 (z_blt f2)
        rw [k1] at f3
        have f3 : (Nat.beq t q.1 && !(Nat.beq t t0)) = true := f3
        rw [Bool.and_eq_true] at f3
        rw [hN w0 hw0, z_beq f1] at k2
        have et : t = q.1 := z_beq f3.1
        refine ⟨?_, ?_⟩
        · show (T (OB q.2.1)).map phi = some q.1
          rw [k2]
          show some (phi t) = some q.1
          rw [pn _ (zu_nb f3.2), et]
        · cases hpl : zu_pl y NMS q with
          | some w => exact zu_tell_out hN hr1 hpl (he (w, q.2.2.2.1) (List.mem_filterMap.mpr ⟨q, hq, by rw [h2, hpl]; rfl⟩))
          | none => rw [hpl] at h6; cases h6
      obtain ⟨p, hp, h5⟩ := List.any_eq_true.mp h4
      rw [Bool.and_eq_true, Bool.and_eq_true, Bool.and_eq_true, Bool.and_eq_true, Bool.and_eq_true] at h5
      obtain ⟨⟨⟨⟨⟨f1, f2⟩, f3⟩, f4⟩, f5⟩, f6⟩ := h5
      have hTp : T (OB p.2.2.2.2.1) = some p.2.2.2.2.2 := by rw [z_beq f1, z_beq f2]; exact hfl
      obtain ⟨k1, k2⟩ := hc p hp hTp
      have en : p.2.1 = q.2.1 := z_beq f3
      have esl := zc_seq_ok f4
      refine ⟨?_, ?_⟩
      · show (T (OB q.2.1)).map phi = some q.1
        rw [← en, k1]
        show some (phi p.1) = some q.1
        rw [Bool.or_eq_true, Bool.and_eq_true, Bool.and_eq_true] at f5
        rcases f5 with ⟨g1, g2⟩ | ⟨g1, g2⟩
        · rw [pn _ (zu_nb g2), z_beq g1]
        · rw [z_beq g1, p0, z_beq g2]
      · cases hpl : zu_pl y NMS q with
        | some w => exact zu_tell_out hN hr1 hpl (he (w, q.2.2.2.1) (List.mem_filterMap.mpr ⟨q, hq, by rw [h2, hpl]; rfl⟩))
        | none =>
          rw [hpl] at f6
          simp only [Option.isSome_none, Bool.false_or, Bool.and_eq_true] at f6
          have := zu_cl1 f6.2 hw hb hA hf k1 k2
          rw [en, esl, z_beq f6.1] at this
          exact this
end ZUHAND
