/-! A contract over names as one at this OB: retyping, claims, the answer. -/
/-- entries that may be written: array, places, values -/
abbrev zuU : Type := List (Nat × (Nat × Nat) × zR)
def zu_cU (TY : List zTy) (NT : List Nat) (y : zNL) (UP : zuU) : Bool := (n_A y).all (fun q => match zb_ar TY NT q with
  | some o => UP.all (fun u => !(Nat.beq u.1 q.2.2.2) || o.all (fun s => Nat.blt u.2.1.2 s.1.1 || Nat.blt s.1.2 u.2.1.1 || (match s.2 with
    | .inl w => z_ile w.1 u.2.2.1 && z_ile u.2.2.2 w.2
    | .inr _ => false)))
  | none => false)
def zu_oI (UP : zuU) (j : Nat) (g : Int → Int) (x : Int) (i : Int) : Prop := x = g i ∨ ∃ u ∈ UP, u.1 = j ∧ (u.2.1.1 : Int) ≤ i ∧ i ≤ (u.2.1.2 : Int) ∧ u.2.2.1 ≤ x ∧ x ≤ u.2.2.2
/-- arrays that may be copied: to, from (places of names) -/
def zu_cC (TY : List zTy) (NT : List Nat) (y : zNL) (CP : List (Nat × Nat)) : Bool := CP.all (fun c => (n_A y).all (fun q => !(Nat.beq q.2.2.2 c.1) || (n_A y).any (fun q2 => Nat.beq q2.2.2.2 c.2 && Nat.ble q.2.2.1 q2.2.2.1 && (match zb_ar TY NT q, zb_ar TY NT q2 with
  | some o, some o2 => o.all (fun s => o2.any (fun s2 => Nat.ble s2.1.1 s.1.1 && Nat.ble s.1.2 s2.1.2 && (match s.2, s2.2 with
    | .inl w, .inl w2 => z_ile w.1 w2.1 && z_ile w2.2 w.2
    | _, _ => false)))
  | _, _ => false))))
def zu_oC (CP : List (Nat × Nat)) (j : Nat) (G : List (Int → Int)) (x i : Int) : Prop := ∃ c ∈ CP, c.1 = j ∧ ∃ g, zn_l G c.2 = some g ∧ x = g i
def zu_oU (y : zNL) (UP : zuU) (CP : List (Nat × Nat)) (G G' : List (Int → Int)) : Prop := ∀ q ∈ n_A y, ∀ g g', zn_l G q.2.2.2 = some g → zn_l G' q.2.2.2 = some g' → ∀ i : Int, 0 ≤ i → i < q.2.2.1 → zu_oI UP q.2.2.2 g (g' i) i ∨ zu_oC CP q.2.2.2 G (g' i) i
theorem zu_rf {UP : zuU} {j : Nat} {g : Int → Int} : ∀ i : Int, zu_oI UP j g (g i) i := fun _ => Or.inl rfl
theorem zu_st {UP : zuU} {j : Nat} {g h : Int → Int} {a v : Int} (k : ∀ i : Int, zu_oI UP j g (h i) i) (hu : ∃ u ∈ UP, u.1 = j ∧ (u.2.1.1 : Int) ≤ a ∧ a ≤ (u.2.1.2 : Int) ∧ u.2.2.1 ≤ v ∧ v ≤ u.2.2.2) : ∀ i : Int, zu_oI UP j g (zn_up h a v i) i := by
  intro i
  by_cases e : i = a
  · rw [e, zn_up_s]; exact Or.inr hu
  · rw [zn_up_n e]; exact k i
section ZUOKP
variable {OB : Nat → Nat} {D : va_G} {DA : Nat → ClassId} {cl : List vw_C} {FT : Nat → Nat → FieldType} {TY : List zTy} {PHI : List (List Nat)} {T : zTp} {H H1 : Heap} {y : zNL} {NT : List Nat} {RC : List zbC} {A : Nat → Nat} {F F' : List Int} {G G' : List (Int → Int)} {fl t0 t1 ph sz : Nat} {NMS : List (Nat × Nat)} {l : Launch}
theorem zu_JL (hw : zb_wf TY cl y NT RC = true) (h : (((zb_no TY NT 12 && zb_no TY NT 4) && (zb_sl y 12 && zb_sl y 4)) && zb_rl TY y) = true) (hb : ∀ a t, T a = some t → ∃ ty, TY[t]? = some ty ∧ z_cell OB D DA cl T H a ty) (hJ : z_J OB D DA TY T H) (hA : ∀ c, c < n_N y → ∃ t, NT[c]? = some t ∧ T (A c) = some t) (hf : zn_frm D cl y A H H1) :
    (∀ a t ci fl, T a = some t → TY[t]? = some (.inl (ci, fl)) → zj_obj T D DA H1 a ci) ∧ zj_q D TY T H1 := by
  simp only [Bool.and_eq_true] at h
  obtain ⟨h, hrl⟩ := h
  refine ⟨fun a t ci fl ha hty => ?_, zb_q hrl hJ hw hb hA hf⟩
  by_cases e : ci = 12
  · subst e
    exact zb_keep hw h.1.1 h.2.1 hb hA hf ha hty (hJ.1 a t _ fl ha hty)
  · by_cases e4 : ci = 4
    · subst e4
      exact zb_keep hw h.1.2 h.2.2 hb hA hf ha hty (hJ.1 a t _ fl ha hty)
    · exact zb_none e e4
theorem zu_phv {phi : Nat → Nat} {c : zV} {v : Value} (hphi : ∀ t, phi t = if t = t0 then t1 else t) (h : zu_ok t0 t0 c = true) (hv : z_v OB T c v) : z_v OB (fun a => (T a).map phi) c v := by
  have pn : ∀ a t, T a = some t → t ≠ t0 → (T a).map phi = some t := fun a t h1 h2 => by
    rw [h1]
    show some (phi t) = some t
    rw [hphi, if_neg h2]
  match c, h, hv with
  | .inl r, _, hv => exact hv
  | .inr (.inl u), h, ⟨a, e, ha⟩ =>
    have h : (!(Nat.beq u t0) && !(Nat.beq u t0)) = true := h
    rw [Bool.and_eq_true] at h
    exact ⟨a, e, pn a u ha (zu_nb h.1)⟩
  | .inr (.inr 0), _, hv => exact hv
  | .inr (.inr (k + 1)), h, hv =>
    have h : (Nat.blt (z_nm k) 20 && (Nat.blt k 2000 || (!(Nat.beq (z_kt k) t0) && !(Nat.beq (z_kt k) t0)))) = true := h
    rw [Bool.and_eq_true] at h
    obtain ⟨v1, v2⟩ := (show zc_kn OB T k v from hv)
    refine ⟨v1, fun hk => ?_⟩
    have h2 := h.2
    rw [hk, Bool.false_or, Bool.and_eq_true] at h2
    exact pn _ _ (v2 hk) (zu_nb h2.1)
theorem zu_pty {phi : Nat → Nat} {t : Nat} (hphi : ∀ t, phi t = if t = t0 then t1 else t) (e01 : TY[t1]? = TY[t0]?) : TY[phi t]? = TY[t]? := by
  rw [hphi]
  by_cases e : t = t0
  · rw [if_pos e, e01, e]
  · rw [if_neg e]
theorem zu_htp {phi : Nat → Nat} (hphi : ∀ t, phi t = if t = t0 then t1 else t) (hty : zu_tys TY t0 t0 = true) (e01 : TY[t1]? = TY[t0]?) (hb : ∀ a t, T a = some t → ∃ ty, TY[t]? = some ty ∧ z_cell OB D DA cl T H a ty) (hJ : (∀ a t ci fl, T a = some t → TY[t]? = some (.inl (ci, fl)) → zj_obj T D DA H a ci) ∧ zj_q D TY T H) (hcl : zj_cl OB D (fun a => (T a).map phi) H) : z_ht OB D DA cl TY (fun a => (T a).map phi) H := by
  have old : ∀ a t, (T a).map phi = some t → ∃ u, T a = some u ∧ t = phi u := by
    intro a t h
    cases hu : T a with
    | none => rw [hu] at h; cases h
    | some u => rw [hu] at h; exact ⟨u, rfl, (Option.some.inj h).symm⟩
  have some_ : ∀ b, (T b).isSome = true → ((T b).map phi).isSome = true := fun b hb => by rw [Option.isSome_map]; exact hb
  refine ⟨fun a t ha => ?_, fun a t ci fl ha hty2 => ?_, fun a a' t t' ci fl fl' h1 h2 h3 h4 k hk b h5 h6 => ?_, hcl⟩
  · obtain ⟨u, u1, rfl⟩ := old a t ha
    obtain ⟨ty, y1, y2⟩ := hb a u u1
    refine ⟨ty, by rw [zu_pty hphi e01]; exact y1, ?_⟩
    have hm := List.all_eq_true.mp hty _ (List.mem_of_getElem? y1)
    match ty, hm, y2 with
    | .inl (ci, fl), hm, ⟨r, q1, q2, V, q3, q4⟩ => exact ⟨r, q1, q2, V, q3, fun k c hk => zu_phv hphi (List.all_eq_true.mp hm c (List.mem_of_getElem? hk)) (q4 k c hk)⟩
    | .inr o, hm, ⟨n, f, z1, z2, z3, z4, z5⟩ => exact ⟨n, f, z1, z2, z3, z4, fun g hg j j1 j2 j3 => zu_phv hphi (List.all_eq_true.mp hm g hg) (z5 g hg j j1 j2 j3)⟩
  · obtain ⟨u, u1, rfl⟩ := old a t ha
    rw [zu_pty hphi e01] at hty2
    exact zj_kept (hJ.1 a u ci fl u1 hty2) some_ (fun _ _ _ h => h) (fun _ _ _ _ _ => rfl)
  · obtain ⟨u, u1, rfl⟩ := old a t h1
    obtain ⟨u', u1', rfl⟩ := old a' t' h3
    rw [zu_pty hphi e01] at h2 h4
    exact hJ.2 a a' u u' ci fl fl' u1 h2 u1' h4 k hk b h5 h6
theorem zu_cU_ok {UP : zuU} {CP : List (Nat × Nat)} (h : zu_cU TY NT y UP = true) (hcc : zu_cC TY NT y CP = true) (hG : zb_rG TY NT y G) (hr : ∀ q ∈ n_A y, ∃ g, zn_l G' q.2.2.2 = some g ∧ ∀ j : Nat, j < q.2.2.1 → ∃ x : Int32, x.toInt = g j) (ho : zu_oU y UP CP G G') : zb_rG TY NT y G' := by
  intro q hq o hqo
  obtain ⟨g', hg', hgx⟩ := hr q hq
  obtain ⟨g, hg, hg2⟩ := hG q hq o hqo
  refine ⟨g', hg', fun s hs j j1 j2 j3 w hw => ?_⟩
  rcases ho q hq g g' hg hg' (j : Int) (by omega) (by omega) with (e | ⟨u, hu, u1, u2, u3, u4, u5⟩) | ⟨c, hc, c1, gg, c2, c3⟩
  rotate_right
  · have h1 := List.all_eq_true.mp (List.all_eq_true.mp hcc c hc) q hq
    have e1 : Nat.beq q.2.2.2 c.1 = true := by rw [c1]; exact Nat.beq_refl _
    rw [e1] at h1
    simp only [Bool.not_true, Bool.false_or] at h1
    obtain ⟨q2, hq2, h2⟩ := List.any_eq_true.mp h1
    rw [Bool.and_eq_true, Bool.and_eq_true] at h2
    obtain ⟨⟨h3, h4⟩, h5⟩ := h2
    rw [hqo] at h5
    split at h5
    · rename_i o1 o2 ho1 ho2
      cases ho1
      obtain ⟨s2, hs2, h6⟩ := List.any_eq_true.mp (List.all_eq_true.mp h5 s hs)
      rw [Bool.and_eq_true, Bool.and_eq_true] at h6
      obtain ⟨⟨h7, h8⟩, h9⟩ := h6
      rw [hw] at h9
      split at h9
      · rename_i w1 w2 hw1 hw2
        cases hw1
        rw [Bool.and_eq_true] at h9
        obtain ⟨g3, k1, k2⟩ := hG q2 hq2 o2 ho2
        rw [z_beq h3, c2] at k1
        cases k1
        have l4 := Nat.le_of_ble_eq_true h4
        have := k2 s2 hs2 j (by omega) (Nat.le_trans (Nat.le_of_ble_eq_true h7) j2) (Nat.le_trans j3 (Nat.le_of_ble_eq_true h8)) w2 hw2
        have a1 := z_ile_ok h9.1
        have a2 := z_ile_ok h9.2
        rw [c3]
        omega
      · cases h9
    · cases h5
  · rw [e]; exact hg2 s hs j j1 j2 j3 w hw
  · have h1 := List.all_eq_true.mp h q hq
    rw [hqo] at h1
    have h2 := List.all_eq_true.mp h1 u hu
    have e1 : Nat.beq u.1 q.2.2.2 = true := by rw [u1]; exact Nat.beq_refl _
    rw [e1] at h2
    simp only [Bool.not_true, Bool.false_or] at h2
    have h3 := List.all_eq_true.mp h2 s hs
    rw [hw, Bool.or_eq_true, Bool.or_eq_true, Bool.and_eq_true] at h3
    rcases h3 with (h3 | h3) | h3
    · have := z_blt h3; omega
    · have := z_blt h3; omega
    · have a1 := z_ile_ok h3.1
      have a2 := z_ile_ok h3.2
      omega
/-- what stands at a place by its range -/
theorem zu_at_rg {q : Nat × Nat × Nat × Nat} {k : Nat} {w : zR} (hq : q ∈ n_A y) (hk : k < q.2.2.1) (h : (match zb_ar TY NT q with
    | some o => o.any (fun s => Nat.ble s.1.1 k && Nat.ble k s.1.2 && (match s.2 with
      | .inl r => z_ile w.1 r.1 && z_ile r.2 w.2
      | .inr _ => false))
    | none => false) = true) (hG : zb_rG TY NT y G) : ∃ g, zn_l G q.2.2.2 = some g ∧ w.1 ≤ g (k : Int) ∧ g (k : Int) ≤ w.2 := by
  split at h
  · rename_i o ho
    obtain ⟨g, g1, g2⟩ := hG q hq o ho
    obtain ⟨s, hs, h2⟩ := List.any_eq_true.mp h
    rw [Bool.and_eq_true, Bool.and_eq_true] at h2
    obtain ⟨⟨h3, h4⟩, h5⟩ := h2
    split at h5
    · rename_i r hr
      rw [Bool.and_eq_true] at h5
      have := g2 s hs k hk (Nat.le_of_ble_eq_true h3) (Nat.le_of_ble_eq_true h4) r hr
      have a1 := z_ile_ok h5.1
      have a2 := z_ile_ok h5.2
      exact ⟨g, g1, by omega, by omega⟩
    · cases h5
  · cases h
theorem zu_OKp {KXf : (Nat → Nat) → Nat → State → Heap → Prop} {TBL : List Cond} {mm : zM} {rm : Nat × Nat} {prm : List zV} {ret : Option zV} {AR : List (Nat ⊕ zR)} {RF : List zR} {RG : List (Nat × zR)} {RFo : List (Nat × Option zR)} {UP : zuU} {CP : List (Nat × Nat)} {RR : Option (Option zR)} {PX : Array Value → Prop} {QP : Option Value → Prop}
    (hw : zb_wf TY cl y NT RC = true) (hc : ((zb_ciF TY NT (n_I y) RF && zb_ciG TY NT (n_A y) RG) && ((zb_cF TY NT y RFo && (zu_cU TY NT y UP && zu_cC TY NT y CP)) && (zb_cA RC 0 AR prm && zb_cR ret RR))) = true)
    (hp0 : prm[0]? = some (z_zn fl t0)) (hn0 : ∀ c i : Nat, RC[c]? = some (.inl i) → i = 0 ∧ NT[c]? = some t0) (h5 : t0 < 500) (hl : (((zb_no TY NT 12 && zb_no TY NT 4) && (zb_sl y 12 && zb_sl y 4)) && zb_rl TY y) = true)
    (hn : NMS.all (zu_nc TY y NT RC fl) = true) (hfq0 : zc_CL.all (fun q => !(Nat.beq q.2.2.2.2.2 t0) || Nat.beq q.2.2.2.2.1 fl) = true) (hk : zu_ck TY y NT NMS fl t0 t1 = true) (hty : zu_tys TY t0 t0 = true) (e01 : TY[t1]? = TY[t0]?) (hphi : ∀ t, z_phi PHI ph t = if t = t0 then t1 else t)
    (hC : ∀ va F G, zb_iA AR va → zb_iF RF F → zb_iG RG G → zb_rG TY NT y G → zu_ent OB F G (zu_lst y NMS t0) → (∃ (A : Nat → Nat) (vals : List Value), zn_st A va vals ∧ PX vals.toArray) → ∃ P Q, zn_OK TBL cl KXf y mm rm P Q ∧ P va F G ∧ ∀ r F' G', Q va F G r F' G' → zb_oF RFo F F' ∧ zu_oU y UP CP G G' ∧ zb_oR RR r ∧ zu_ent OB F' G' (zu_lst y NMS t1) ∧ ∀ v, zn_rv r v → QP v) :
    ∀ T : zTp, Met l mm.1 (Cond.code mm.1 mm.2.1 mm.2.2.1 mm.2.2.2.1 :: TBL) { frames := rm.1, cells := 0, slots := 0, locals := rm.2 } (fun a U => z_Pre OB D DA cl FT TY sz (KXf OB sz) (prm, none, [], [([], ret, [], [])], false, (0, 0), rm, ph) T a U ∧ PX a) (fun a st o t => z_Post OB D DA cl TY PHI sz (prm, none, [], [([], ret, [], [])], false, (0, 0), rm, ph) T a st o t ∧ ∀ v, o = .returned v → QP v) 0 0 (fun q => sz ≤ q) := by
  simp only [Bool.and_eq_true] at hc
  obtain ⟨⟨hcF, hcG⟩, ⟨hcFo, hcGo, hcCo⟩, hcA, hcR⟩ := hc
  intro T p e hadm hf1 hf2 s m args below hfr happ hPre hK0
  obtain ⟨⟨vals, rfl, hlen, hprm, -, hloc, hht, hge, hsz, hKc, hX⟩, hPX⟩ := hPre
  obtain ⟨v0, hv0, hz0⟩ := hprm 0 _ hp0 (Or.inl rfl)
  obtain ⟨rfl, hfl⟩ := z_zn_g h5 hz0
  obtain ⟨A, hOB, hA, hAS, hrep, hrF, hrG⟩ := zb_open hw hht.1 (S := fun _ => OB fl) (fun c i h => ⟨t0, (hn0 c i h).2, hfl⟩)
  have hl2 : ∀ (c i : Nat), RC[c]? = some (.inl i) → vals[i]? = some (.ref (A c)) := fun c i hci => by
    rw [hAS c i hci, (hn0 c i hci).1]; exact hv0
  have hN := zu_nc_ok hn hht.1 hA (fun c h => hAS c 0 h) hrep
  obtain ⟨va, hva, hst⟩ := zb_va (OB := OB) (T := T) hl2 (vs := vals) (i := 0) hcA hlen (fun j c hj => hprm j c hj (Or.inl rfl)) (fun j v h => by rw [Nat.zero_add]; exact h)
  have hiF : zb_iF RF (zb_F D s.heap A y) := zb_ciF_ok hcF (fun q hq w hqw => by
    obtain ⟨x, x1, x2⟩ := hrF q hq w hqw
    unfold zb_F at x1
    rw [zb_place (zb_wfS hw).1 hq] at x1
    have x1 := Option.some.inj x1
    rw [x1]; exact x2)
  have hiG : zb_iG RG (zb_G s.heap A y) := zb_ciG_ok hcG (fun q hq o hqo st hst2 j j1 j2 j3 r hr => by
    obtain ⟨g, x1, x2⟩ := hrG q hq o hqo
    unfold zb_G at x1
    rw [zb_place (zb_wfS hw).2 hq] at x1
    have x1 := Option.some.inj x1
    subst x1
    exact x2 st hst2 j j1 j2 j3 r hr)
  have hent : zu_ent OB (zb_F D s.heap A y) (zb_G s.heap A y) (zu_lst y NMS t0) := by
    intro u hu
    obtain ⟨q, hq, h1⟩ := List.mem_filterMap.mp hu
    cases hb : Nat.beq q.2.2.2.2.2 t0 with
    | false => rw [hb] at h1; cases h1
    | true =>
      rw [hb] at h1
      have h1 : (zu_pl y NMS q).map (fun w => (w, q.2.2.2.1)) = some u := h1
      cases hpl : zu_pl y NMS q with
      | none => rw [hpl] at h1; cases h1
      | some w =>
        rw [hpl] at h1
        have h1 : (w, q.2.2.2.1) = u := Option.some.inj h1
        subst h1
        have hfq : q.2.2.2.2.1 = fl := z_beq (by
          have h2 := List.all_eq_true.mp hfq0 q hq
          rw [hb] at h2
          exact h2)
        exact zu_tell_in hN hrep hpl (hht.2.2.2 q hq (by rw [hfq, z_beq hb]; exact hfl)).2
  obtain ⟨P, Q, hok, hP, hQ⟩ := hC va _ _ hva hiF hiG hrG hent ⟨A, vals, hst, hPX⟩
  have hgeA : ∀ c, c < n_N y → sz ≤ A c := fun c hc => by obtain ⟨t, _, t2⟩ := hA c hc; exact hge _ _ t2
  obtain ⟨n, o, k1, k2, k3, k4, k5⟩ := hok l OB D DA sz A va _ _ hP (zb_inj hw hA) hgeA hOB p e hadm hf1 hf2 s m _ below hfr happ ⟨vals, rfl, hst, hrep, hsz, hKc, hX⟩ trivial
  refine ⟨n, o, k1, k2, k3, ?_, k5⟩
  obtain ⟨r, v, F', G', e0, q1, q2, q3, q4⟩ := k4
  obtain ⟨o1, o2, o3, o4, o5⟩ := hQ r F' G' q4
  have hrF' := zb_cF_ok hw hcFo hrF (fun q hq => by obtain ⟨_, x, _, _, _, h⟩ := q2.2.1 q hq; exact ⟨x, h⟩) o1
  have hrG' := zu_cU_ok hcGo hcCo hrG (fun q hq => by obtain ⟨f, g, _, h, h2⟩ := q2.2.2.2 q hq; exact ⟨g, h, fun j hj => by obtain ⟨x, _, x2⟩ := h2 j hj; exact ⟨x, x2⟩⟩) o2
  obtain ⟨c1, c2⟩ := zb_close hw hht.1 hA q2 q3 hrF' hrG'
  have hcl' := zu_claims hk hphi hfl hw hht.1 hA q3 hN q2 o4 hht.2.2.2
  have ht' := zu_htp hphi hty e01 c1 (zu_JL hw hl hht.1 hht.2 hA q3) hcl'
  refine ⟨⟨vals, v, fun a => (T a).map (z_phi PHI ph), rfl, e0, ht', fun a u h => ?_, fun a u h => by show (T a).map _ = _; rw [h]; rfl, fun q hq1 hq2 _ => ⟨by show (T q).map _ = none; rw [hq2]; rfl, q3.2.1 q (fun c hc e => ?_)⟩, Nat.le_of_eq q3.1.symm, fun q hq1 hq2 => q3.2.1 q (fun c hc e => hq2 (by rw [← e]; exact hgeA c hc)), ⟨fun h => (by cases h), fun a t ci flds g1 g2 => ?_⟩, _, List.mem_singleton.mpr rfl, fun q hq => absurd hq List.not_mem_nil, ?_, fun q hq => absurd hq List.not_mem_nil, fun i q h hi hh => by have hi : ([] : List (zLoc × zV))[i]? = some q := hi; rw [List.getElem?_nil] at hi; cases hi⟩, fun v2 hv2 => ?_⟩
  · have h : (T a).map (z_phi PHI ph) = some u := h
    cases hu : T a with
    | none => rw [hu] at h; cases h
    | some w => exact hge a w hu
  · obtain ⟨t, _, t2⟩ := hA c hc
    rw [e, hq2] at t2
    cases t2
  · obtain ⟨t', fl', k1, k2, k3⟩ := c2 a t ci flds g1 g2
    rw [g1] at k1
    cases k1
    exact ⟨z_phi PHI ph t, fl', by show (T a).map _ = _; rw [g1]; rfl, by rw [zu_pty hphi e01]; exact k2, k3⟩
  · exact zb_cR_ok hcR o3 q1
  · rw [e0] at hv2
    cases hv2
    exact o5 v q1
end ZUOKP
