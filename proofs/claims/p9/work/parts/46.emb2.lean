/-! A contract over some names is used over more of them: the theorem. -/
theorem zv_wfOO {y : zNL} (h : zv_wf y = true) {q u : Nat × Nat} (hq : q ∈ n_O y) (hu : u ∈ n_O y) (e : q.1 = u.1) : q.2 = u.2 := by
  have h := (zv_wf0_of h).2
  unfold zv_wf0 at h
  simp only [Bool.and_eq_true] at h
  have h1 := List.all_eq_true.mp h.1.2 q hq
  simp only [Bool.and_eq_true] at h1
  have h2 := List.all_eq_true.mp h1.1.1.2 u hu
  simp only [Bool.or_eq_true, Bool.not_eq_true'] at h2
  rcases h2 with h3 | h3
  · rw [e, Nat.beq_refl] at h3; cases h3
  · exact z_beq h3
theorem zv_w_rn {ρ : List Nat} {A : Nat → Nat} {c : Nat} {w : Value} (hr : ρ.length ≤ 900) (hl : ∀ d ∈ ρ, d < 900) (h : zv_w A (zv_rc ρ c) w) : zv_w (fun c => A (zv_rc ρ c)) c w := by
  by_cases hc : c < 5000
  · have hc2 : zv_rc ρ c < 5000 := by
      unfold zv_rc
      cases e : zv_l ρ c with
      | none => exact hc
      | some d =>
        rw [zv_l_get] at e
        have := hl d (List.mem_of_getElem? e)
        show d < 5000
        omega
    rw [zv_w_r h hc2]
    exact zv_w_mk (A := fun c => A (zv_rc ρ c)) hc
  · have e : zv_rc ρ c = c := by
      unfold zv_rc
      rw [zv_l_get, List.getElem?_eq_none (by omega)]
    rw [e] at h
    have hb : Nat.blt c 5000 = false := by
      cases hb : Nat.blt c 5000 with
      | false => rfl
      | true => exact absurd (z_blt hb) hc
    unfold zv_w at h ⊢
    rw [hb] at h ⊢
    exact h
theorem zv_st_rn {ρ : List Nat} {A : Nat → Nat} (hr : ρ.length ≤ 900) (hl : ∀ d ∈ ρ, d < 900) : ∀ {va : List zNV} {vals : List Value}, zv_st A (va.map (zv_rn ρ)) vals → zv_st (fun c => A (zv_rc ρ c)) va vals
  | [], _, h => h
  | .inl x :: va, _, ⟨w, k', e, hv, h⟩ => ⟨w, k', e, hv, zv_st_rn hr hl (va := va) h⟩
  | .inr c :: va, _, ⟨w, k', e, hv, h⟩ => ⟨w, k', e, zv_w_rn hr hl hv, zv_st_rn hr hl (va := va) h⟩
def zv_Fn (TBL : List Cond) (cl : List vw_C) (KXf : (Nat → Nat) → Nat → State → Heap → Prop) (y : zNL) (mm : zM) (rm : Nat × Nat) (va F : List zNV) (G : List (Int → Int)) (r : Option Int) (F' : List zNV) (G' : List (Int → Int)) : Prop :=
  zv_OK TBL cl KXf y mm rm (fun a b c => a = va ∧ b = F ∧ c = G) (fun _ _ _ q b c => q = r ∧ b = F' ∧ c = G')
def zv_ek2 (y2 : zNL) : Bool := Nat.ble (n_N y2) 900 && (n_R y2).all (fun q => (n_O y2).any (fun u => Nat.beq u.1 q.1 && Nat.beq u.2 q.2.1))
section ZVEMB
variable {y1 y2 : zNL} {ρ φ ψ : List Nat}
theorem zv_any4 {L : List (Nat × Nat × Nat × Nat)} {b : Nat × Nat × Nat × Nat} (h : L.any (fun u => zv_e4 u b) = true) : b ∈ L := by
  obtain ⟨u, hu, h2⟩ := List.any_eq_true.mp h
  rw [← zv_e4_ok h2]; exact hu
theorem zv_ek_ok (hk : zv_ek y1 y2 ρ φ ψ = true) : (ρ.length = n_N y1 ∧ ρ.length ≤ 900 ∧ zv_nd ρ = true ∧ zv_nd φ = true ∧ zv_nd ψ = true ∧ ∀ d ∈ ρ, d < n_N y2) ∧
    ((∀ q ∈ n_O y1, (zv_rc ρ q.1, q.2) ∈ n_O y2) ∧ (∀ q ∈ n_I y1, q.2.2.2 < φ.length ∧ (zv_rc ρ q.1, q.2.1, q.2.2.1, zv_rc φ q.2.2.2) ∈ n_I y2) ∧ (∀ q ∈ n_R y1, (zv_rc ρ q.1, q.2.1, q.2.2.1, zv_rc ρ q.2.2.2) ∈ n_R y2) ∧ (∀ q ∈ n_A y1, q.2.2.2 < ψ.length ∧ (zv_rc ρ q.1, q.2.1, q.2.2.1, zv_rc ψ q.2.2.2) ∈ n_A y2)) ∧
    (∀ c, c < ρ.length → (∃ q ∈ n_O y1, q.1 = c) ∨ ∃ q ∈ n_A y1, q.1 = c) ∧ (∀ j, j < φ.length → ∃ q ∈ n_I y1, q.2.2.2 = j) ∧ ∀ j, j < ψ.length → ∃ q ∈ n_A y1, q.2.2.2 = j := by
  unfold zv_ek at hk
  simp only [Bool.and_eq_true] at hk
  obtain ⟨⟨⟨⟨⟨⟨a1, a2⟩, a3⟩, a4, a5⟩, a6⟩, ⟨⟨b1, b2⟩, b3⟩, b4⟩, ⟨c1, c2⟩, c3⟩ := hk
  refine ⟨⟨z_beq a1, Nat.le_of_ble_eq_true a2, a3, a4, a5, fun d hd => z_blt (List.all_eq_true.mp a6 d hd)⟩, ⟨fun q hq => ?_, fun q hq => ?_, fun q hq => ?_, fun q hq => ?_⟩, fun c hc => ?_, fun j hj => ?_, fun j hj => ?_⟩
  · obtain ⟨u, hu, h2⟩ := List.any_eq_true.mp (List.all_eq_true.mp b1 q hq)
    rw [Bool.and_eq_true] at h2
    rw [← z_beq h2.1, ← z_beq h2.2]; exact hu
  · have h2 := List.all_eq_true.mp b2 q hq
    rw [Bool.and_eq_true] at h2
    exact ⟨z_blt h2.1, zv_any4 h2.2⟩
  · exact zv_any4 (List.all_eq_true.mp b3 q hq)
  · have h2 := List.all_eq_true.mp b4 q hq
    rw [Bool.and_eq_true] at h2
    exact ⟨z_blt h2.1, zv_any4 h2.2⟩
  · have h2 := List.all_eq_true.mp c1 c (List.mem_range.mpr hc)
    rw [Bool.or_eq_true] at h2
    rcases h2 with h2 | h2
    · obtain ⟨u, hu, h3⟩ := List.any_eq_true.mp h2
      exact Or.inl ⟨u, hu, z_beq h3⟩
    · obtain ⟨u, hu, h3⟩ := List.any_eq_true.mp h2
      exact Or.inr ⟨u, hu, z_beq h3⟩
  · obtain ⟨u, hu, h3⟩ := List.any_eq_true.mp (List.all_eq_true.mp c2 j (List.mem_range.mpr hj))
    exact ⟨u, hu, z_beq h3⟩
  · obtain ⟨u, hu, h3⟩ := List.any_eq_true.mp (List.all_eq_true.mp c3 j (List.mem_range.mpr hj))
    exact ⟨u, hu, z_beq h3⟩
theorem zv_rc_at {c : Nat} (h : c < ρ.length) : zv_l ρ c = some (zv_rc ρ c) := by
  obtain ⟨v, hv⟩ := zv_l_lt h
  rw [zv_rc_of hv]; exact hv
theorem zv_rc_out {c : Nat} (h : ρ.length ≤ c) : zv_rc ρ c = c := by
  unfold zv_rc
  rw [zv_l_get, List.getElem?_eq_none h]
theorem zv_rc_in {c : Nat} (h : c < ρ.length) : zv_rc ρ c ∈ ρ := by
  have := zv_rc_at h
  rw [zv_l_get] at this
  exact List.mem_of_getElem? this
end ZVEMB
theorem zv_emb {TBL : List Cond} {cl : List vw_C} {KXf : (Nat → Nat) → Nat → State → Heap → Prop} {y1 y2 : zNL} {mm : zM} {rm : Nat × Nat} {va F1 F1' F : List zNV} {G1 G1' G : List (Int → Int)} {r : Option Int} {ρ φ ψ : List Nat} (hw1 : zv_wf y1 = true) (hw2 : zv_wf y2 = true) (hk2 : zv_ek2 y2 = true) (hk : zv_ek y1 y2 ρ φ ψ = true) (h : zv_Fn TBL cl KXf y1 mm rm va F1 G1 r F1' G1') (hF : zv_mF ρ F φ F1) (hG : zv_mG G ψ G1) : zv_Fn TBL cl KXf y2 mm rm (va.map (zv_rn ρ)) F G r (zv_pF ρ φ F F1') (zv_pG ψ G G1') := by
  intro l OB D DA sz A va2 F2 G2 hP hinj hge hOB
  obtain ⟨rfl, rfl, rfl⟩ := hP
  obtain ⟨⟨hN, h9, ndR, ndF, ndG, hlt⟩, ⟨hO, hI, hR, hA⟩, hc, hpF, hpG⟩ := zv_ek_ok hk
  unfold zv_ek2 at hk2
  rw [Bool.and_eq_true] at hk2
  have h29 : n_N y2 ≤ 900 := Nat.le_of_ble_eq_true hk2.1
  have hRO : ∀ q ∈ n_R y2, ∃ u ∈ n_O y2, u.1 = q.1 ∧ u.2 = q.2.1 := fun q hq => by
    obtain ⟨u, hu, h3⟩ := List.any_eq_true.mp (List.all_eq_true.mp hk2.2 q hq)
    rw [Bool.and_eq_true] at h3
    exact ⟨u, hu, z_beq h3.1, z_beq h3.2⟩
  have hl9 : ∀ d ∈ ρ, d < 900 := fun d hd => by have := hlt d hd; omega
  have rlt : ∀ {c}, c < n_N y1 → zv_rc ρ c < n_N y2 := fun {c} h => hlt _ (zv_rc_in (by omega))
  have rinj : ∀ {a b}, a < n_N y1 → b < n_N y1 → zv_rc ρ a = zv_rc ρ b → a = b := fun {a b} ha hb e => zv_nd_ok ndR (zv_rc_at (by omega)) (by rw [e]; exact zv_rc_at (by omega))
  have rk : ∀ {c}, c < 1000 → zv_rc ρ c < 1000 := fun {c} h => by
    rcases Nat.lt_or_ge c ρ.length with q | q
    · have := rlt (c := c) (by omega); omega
    · rw [zv_rc_out q]; exact h
  have rk2 : ∀ {c}, zv_rc ρ c < 1000 → c < 1000 := fun {c} h => by
    rcases Nat.lt_or_ge c ρ.length with q | q
    · omega
    · rw [zv_rc_out q] at h; exact h
  have hok := h l OB D DA sz (fun c => A (zv_rc ρ c)) va F1 G1 ⟨rfl, rfl, rfl⟩ (fun a b ha hb e => rinj ha hb (hinj _ _ (rlt ha) (rlt hb) e)) (fun a ha => hge _ (rlt ha)) (fun k => by show A (zv_rc ρ (900 + k)) = _; rw [zv_rc_out (by omega)]; exact hOB k)
  intro p e hadm hf1 hf2 s m args below hfr happ hPre hK0
  obtain ⟨vals, rfl, hst, hrep, hsz, hK, hX⟩ := hPre
  have rep1 : zv_rep D DA cl y1 (fun c => A (zv_rc ρ c)) F1 G1 s.heap := by
    refine ⟨fun q hq => ?_, fun q hq => ?_, fun q hq => ?_, fun q hq => ?_⟩
    · exact hrep.1 _ (hO q hq)
    · obtain ⟨hl, hm⟩ := hI q hq
      obtain ⟨r0, w, f, c1, c2, c3, c4, c5⟩ := hrep.2.1 _ hm
      obtain ⟨f1, g, e1, e2, e3⟩ := zv_mF_at hF (zv_rc_at hl)
      have c4 : zv_l F2 (zv_rc φ q.2.2.2) = some f := c4
      rw [c4] at e2
      cases e2
      refine ⟨r0, w, f1, c1, c2, c3, e1, fun his => ?_⟩
      have ef := e3 his
      match f1, his, ef with
      | .inl x, _, ef => rw [ef] at c5; exact c5 trivial
      | .inr c, his, ef => rw [ef] at c5; exact zv_w_rn h9 hl9 (c5 (rk his))
    · exact hrep.2.2.1 _ (hR q hq)
    · obtain ⟨hl, hm⟩ := hA q hq
      obtain ⟨f, g, x1, x2, x3⟩ := hrep.2.2.2 _ hm
      obtain ⟨g1, e1, e2⟩ := zv_mG_at hG (zv_rc_at hl)
      have x2 : zv_l G2 (zv_rc ψ q.2.2.2) = some g := x2
      rw [x2] at e2
      cases e2
      exact ⟨f, g, x1, e1, x3⟩
  obtain ⟨n, o, k1, k2, k3, k4, k5⟩ := hok p e hadm hf1 hf2 s m _ below hfr happ ⟨vals, rfl, zv_st_rn h9 hl9 hst, rep1, hsz, hK, hX⟩ trivial
  refine ⟨n, o, k1, k2, k3, ?_, k5⟩
  obtain ⟨r', v, F', G', e0, q1, q2, q3, rfl, rfl, rfl⟩ := k4
  have hun : ∀ b, b < n_N y2 → (¬ ∃ c, c < n_N y1 ∧ zv_rc ρ c = b) → (_ : Heap)[A b]? = s.heap[A b]? := fun b hb hne => q3.2.1 (A b) (fun c hc e => hne ⟨c, hc, hinj _ _ (rlt hc) hb e⟩)
  have nFr : ∀ q ∈ n_I y2, (∀ u ∈ n_I y1, ¬ (zv_rc ρ u.1 = q.1 ∧ u.2.2.1 = q.2.2.1)) → ∀ j, zv_l φ j ≠ some q.2.2.2 := fun q hq hne j hj => by
    obtain ⟨u, hu, ej⟩ := hpF j (zv_l_len hj)
    obtain ⟨hl, hm⟩ := hI u hu
    have ep : zv_rc φ u.2.2.2 = q.2.2.2 := by rw [ej]; exact zv_rc_of hj
    obtain ⟨w1, w2⟩ := zv_wfI hw2 hm hq
    exact hne u hu (w1.mp ep)
  have nGr : ∀ q ∈ n_A y2, (∀ u ∈ n_A y1, zv_rc ρ u.1 ≠ q.1) → ∀ j, zv_l ψ j ≠ some q.2.2.2 := fun q hq hne j hj => by
    obtain ⟨u, hu, ej⟩ := hpG j (zv_l_len hj)
    obtain ⟨hl, hm⟩ := hA u hu
    have ep : zv_rc ψ u.2.2.2 = q.2.2.2 := by rw [ej]; exact zv_rc_of hj
    exact hne u hu (((zv_wfA hw2 hm).2.1 q hq).1.mp ep)
  refine ⟨r', v, _, _, e0, q1, ⟨fun q hq => ?_, fun q hq => ?_, fun q hq => ?_, fun q hq => ?_⟩, ⟨q3.1, fun b hb => q3.2.1 b (fun c hc => hb _ (rlt hc)), fun q hq r0 k w hcl hkr hni hs => ?_⟩, rfl, rfl, rfl⟩
  · have hq1 := (zv_wfO hw2 hq).1
    by_cases him : ∃ c, c < n_N y1 ∧ zv_rc ρ c = q.1
    · obtain ⟨c, c1, c2⟩ := him
      rcases hc c (by omega) with ⟨u, hu, eu⟩ | ⟨u, hu, eu⟩
      · have ecl := zv_wfOO hw2 (hO u hu) hq (by show zv_rc ρ u.1 = q.1; rw [eu]; exact c2)
        obtain ⟨r0, V, y3, y4⟩ := q2.1 u hu
        have ecl : u.2 = q.2 := ecl
        rw [ecl] at y3 y4
        have ea : A (zv_rc ρ u.1) = A q.1 := by rw [eu, c2]
        exact ⟨r0, V, y3, by rw [← ea]; exact y4⟩
      · exact absurd (by show q.1 = zv_rc ρ u.1; rw [eu, c2]) ((zv_wfO hw2 hq).2.1 _ (hA u hu).2)
    · obtain ⟨r0, V, y3, y4⟩ := hrep.1 q hq
      exact ⟨r0, V, y3, y4.kept (hun _ hq1 him)⟩
  · obtain ⟨hq1, oo, ho, ho1, ho2⟩ := zv_wfIn hw2 hq
    obtain ⟨r0, w, f, c1, c2, c3, c4, c5⟩ := hrep.2.1 q hq
    by_cases hin : ∃ u ∈ n_I y1, zv_rc ρ u.1 = q.1 ∧ u.2.2.1 = q.2.2.1
    · obtain ⟨u, hu, eu1, eu2⟩ := hin
      obtain ⟨hl, hm⟩ := hI u hu
      obtain ⟨w1, w2⟩ := zv_wfI hw2 hm hq
      have ep : zv_rc φ u.2.2.2 = q.2.2.2 := w1.mpr ⟨eu1, eu2⟩
      have ec : u.2.1 = q.2.1 := w2 eu1
      obtain ⟨r1, w', f', d1, d2, d3, d4, d5⟩ := q2.2.1 u hu
      have hlp := zv_rc_at hl
      rw [ep] at hlp
      rw [ec] at d1 d3
      rw [eu2] at d2 d3
      have ea : A (zv_rc ρ u.1) = A q.1 := by rw [eu1]
      refine ⟨r1, w', zv_rn ρ f', d1, d2, by rw [← ea]; exact d3, zv_pF_at ndF hlp d4 ⟨f, c4⟩, fun his => ?_⟩
      match f', his, d5 with
      | .inl x, _, d5 => exact d5 trivial
      | .inr c, his, d5 =>
        have hc := rk2 his
        have hw : w' = .ref (A (zv_rc ρ c)) := zv_w_r (A := fun c => A (zv_rc ρ c)) (d5 hc) (by have : c < 1000 := hc; omega)
        rw [hw]
        exact zv_w_mk (by have : zv_rc ρ c < 1000 := his; omega)
    · have hne : ∀ u ∈ n_I y1, ¬ (zv_rc ρ u.1 = q.1 ∧ u.2.2.1 = q.2.2.1) := fun u hu he => hin ⟨u, hu, he⟩
      refine ⟨r0, w, f, c1, c2, ?_, by rw [zv_pF_ne (nFr q hq hne)]; exact c4, c5⟩
      by_cases him : ∃ c, c < n_N y1 ∧ zv_rc ρ c = q.1
      · obtain ⟨c, x1, x2⟩ := him
        rcases hc c (by omega) with ⟨u, hu, eu⟩ | ⟨u, hu, eu⟩
        · have ecl : u.2 = oo.2 := zv_wfOO (q := (zv_rc ρ u.1, u.2)) hw2 (hO u hu) ho (by show zv_rc ρ u.1 = oo.1; rw [eu, ho1]; exact x2)
          have ea : A (zv_rc ρ u.1) = A q.1 := by rw [eu, x2]
          have := q3.2.2 u hu r0 q.2.2.1 w (by rw [ecl, ho2]; exact c1) c2 (fun i hi e1 e2 => hne i hi ⟨by rw [e1, eu]; exact x2, e2⟩) (by show z_sl _ (A (zv_rc ρ u.1)) _ _; rw [ea, ecl, ho2]; exact c3)
          have this : z_sl _ (A (zv_rc ρ u.1)) (D.2 u.2 q.2.2.1) w := this
          rw [ea, ecl, ho2] at this
          exact this
        · exact absurd (by show oo.1 = zv_rc ρ u.1; rw [ho1, eu, x2]) ((zv_wfO hw2 ho).2.1 _ (hA u hu).2)
      · exact z_sl_kept c3 (hun _ hq1 him)
  · obtain ⟨hq1, -⟩ := zv_wfR hw2 hq
    obtain ⟨r0, c1, c2, c3⟩ := hrep.2.2.1 q hq
    obtain ⟨oo, ho, ho1, ho2⟩ := hRO q hq
    refine ⟨r0, c1, c2, ?_⟩
    by_cases him : ∃ c, c < n_N y1 ∧ zv_rc ρ c = q.1
    · obtain ⟨c, x1, x2⟩ := him
      rcases hc c (by omega) with ⟨u, hu, eu⟩ | ⟨u, hu, eu⟩
      · have ecl : u.2 = oo.2 := zv_wfOO (q := (zv_rc ρ u.1, u.2)) hw2 (hO u hu) ho (by show zv_rc ρ u.1 = oo.1; rw [eu, ho1]; exact x2)
        have ea : A (zv_rc ρ u.1) = A q.1 := by rw [eu, x2]
        have := q3.2.2 u hu r0 q.2.2.1 _ (by rw [ecl, ho2]; exact c1) c2 (fun i hi e1 e2 => (zv_wfIR hw2 (hI i hi).2 hq).1 ⟨by show zv_rc ρ i.1 = q.1; rw [e1, eu]; exact x2, e2⟩) (by show z_sl _ (A (zv_rc ρ u.1)) _ _; rw [ea, ecl, ho2]; exact c3)
        have this : z_sl _ (A (zv_rc ρ u.1)) (D.2 u.2 q.2.2.1) _ := this
        rw [ea, ecl, ho2] at this
        exact this
      · exact absurd (by show oo.1 = zv_rc ρ u.1; rw [ho1, eu, x2]) ((zv_wfO hw2 ho).2.1 _ (hA u hu).2)
    · exact z_sl_kept c3 (hun _ hq1 him)
  · obtain ⟨hq1, w2, w3, w4⟩ := zv_wfA hw2 hq
    obtain ⟨f, g, x1, x2, x3⟩ := hrep.2.2.2 q hq
    by_cases hin : ∃ u ∈ n_A y1, zv_rc ρ u.1 = q.1
    · obtain ⟨u, hu, eu⟩ := hin
      obtain ⟨hl, hm⟩ := hA u hu
      obtain ⟨p1, p2⟩ := w2 _ hm
      obtain ⟨p3, p4⟩ := p2 eu.symm
      have ep : q.2.2.2 = zv_rc ψ u.2.2.2 := p1.mpr eu.symm
      have p3 : q.2.1 = u.2.1 := p3
      have p4 : q.2.2.1 = u.2.2.1 := p4
      obtain ⟨f', g', z1, z2, z3⟩ := q2.2.2.2 u hu
      have hlp := zv_rc_at hl
      rw [← ep] at hlp
      have ea : A (zv_rc ρ u.1) = A q.1 := by rw [eu]
      refine ⟨f', g', ?_, zv_pG_at ndG hlp z2 ⟨g, x2⟩, by rw [p4, p3]; exact z3⟩
      rw [← ea, p3, p4]
      exact z1
    · have hne : ∀ u ∈ n_A y1, zv_rc ρ u.1 ≠ q.1 := fun u hu he => hin ⟨u, hu, he⟩
      refine ⟨f, g, ?_, by rw [zv_pG_ne (nGr q hq hne)]; exact x2, x3⟩
      by_cases him : ∃ c, c < n_N y1 ∧ zv_rc ρ c = q.1
      · obtain ⟨c, y1', y2'⟩ := him
        rcases hc c (by omega) with ⟨u, hu, eu⟩ | ⟨u, hu, eu⟩
        · exact absurd (by show zv_rc ρ u.1 = q.1; rw [eu]; exact y2') ((zv_wfO hw2 (hO u hu)).2.1 _ hq)
        · exact absurd (by rw [eu]; exact y2') (hne u hu)
      · rw [hun _ hq1 him]; exact x1
  · have hq1 := (zv_wfO hw2 hq).1
    by_cases him : ∃ c, c < n_N y1 ∧ zv_rc ρ c = q.1
    · obtain ⟨c, x1, x2⟩ := him
      rcases hc c (by omega) with ⟨u, hu, eu⟩ | ⟨u, hu, eu⟩
      · have ecl : u.2 = q.2 := zv_wfOO (q := (zv_rc ρ u.1, u.2)) hw2 (hO u hu) hq (by show zv_rc ρ u.1 = q.1; rw [eu]; exact x2)
        have ea : A (zv_rc ρ u.1) = A q.1 := by rw [eu, x2]
        have := q3.2.2 u hu r0 k w (by rw [ecl]; exact hcl) hkr (fun i hi e1 e2 => hni _ (hI i hi).2 (by show zv_rc ρ i.1 = q.1; rw [e1, eu]; exact x2) e2) (by show z_sl _ (A (zv_rc ρ u.1)) _ _; rw [ea, ecl]; exact hs)
        have this : z_sl _ (A (zv_rc ρ u.1)) (D.2 u.2 k) w := this
        rw [ea, ecl] at this
        exact this
      · exact absurd (by show q.1 = zv_rc ρ u.1; rw [eu, x2]) ((zv_wfO hw2 hq).2.1 _ (hA u hu).2)
    · exact z_sl_kept hs (hun _ hq1 him)
/-! The same, with what comes of it written place by place. -/
def zv_gt (ρ : List Nat) (F1 : List zNV) (j : Nat) (d : zNV) : zNV := match zv_l F1 j with
  | some f => zv_rn ρ f
  | none => d
def zv_mkF (ρ : List Nat) (F1 : List zNV) : List (Option Nat) → List zNV → List zNV
  | none :: p, f :: F => f :: zv_mkF ρ F1 p F
  | some j :: p, f :: F => zv_gt ρ F1 j f :: zv_mkF ρ F1 p F
  | _, F => F
def zv_gg (G1 : List (Int → Int)) (j : Nat) (d : Int → Int) : Int → Int := match zv_l G1 j with
  | some g => g
  | none => d
def zv_mkG (G1 : List (Int → Int)) : List (Option Nat) → List (Int → Int) → List (Int → Int)
  | none :: p, f :: F => f :: zv_mkG G1 p F
  | some j :: p, f :: F => zv_gg G1 j f :: zv_mkG G1 p F
  | _, F => F
def zv_pn (φ : List Nat) (p : List (Option Nat)) : Bool := φ.all (fun k => Nat.blt k p.length) && (List.range p.length).all (fun k => match zv_l p k with
  | some (some j) => Nat.blt j φ.length && Nat.beq (zv_rc φ j) k
  | _ => φ.all (fun q => !(Nat.beq q k)))
theorem zv_mkF_l {ρ : List Nat} {F1 : List zNV} : ∀ {p : List (Option Nat)} {F : List zNV} {k : Nat}, zv_l (zv_mkF ρ F1 p F) k = match zv_l p k with
    | some (some j) => (zv_l F k).map (zv_gt ρ F1 j)
    | _ => zv_l F k
  | [], F, k => by cases F <;> rfl
  | none :: p, [], k => by
    show zv_l ([] : List zNV) k = _
    cases h : zv_l (none :: p) k with
    | none => rfl
    | some o => cases o <;> rfl
  | some j :: p, [], k => by
    show zv_l ([] : List zNV) k = _
    cases h : zv_l (some j :: p) k with
    | none => rfl
    | some o => cases o <;> rfl
  | none :: p, f :: F, 0 => rfl
  | some j :: p, f :: F, 0 => rfl
  | none :: p, f :: F, k + 1 => zv_mkF_l (p := p) (F := F) (k := k)
  | some j :: p, f :: F, k + 1 => zv_mkF_l (p := p) (F := F) (k := k)
theorem zv_mkG_l {G1 : List (Int → Int)} : ∀ {p : List (Option Nat)} {F : List (Int → Int)} {k : Nat}, zv_l (zv_mkG G1 p F) k = match zv_l p k with
    | some (some j) => (zv_l F k).map (zv_gg G1 j)
    | _ => zv_l F k
  | [], F, k => by cases F <;> rfl
  | none :: p, [], k => by
    show zv_l ([] : List (Int → Int)) k = _
    cases h : zv_l (none :: p) k with
    | none => rfl
    | some o => cases o <;> rfl
  | some j :: p, [], k => by
    show zv_l ([] : List (Int → Int)) k = _
    cases h : zv_l (some j :: p) k with
    | none => rfl
    | some o => cases o <;> rfl
  | none :: p, f :: F, 0 => rfl
  | some j :: p, f :: F, 0 => rfl
  | none :: p, f :: F, k + 1 => zv_mkG_l (p := p) (F := F) (k := k)
  | some j :: p, f :: F, k + 1 => zv_mkG_l (p := p) (F := F) (k := k)
theorem zv_ext {α : Type} {A B : List α} (h : ∀ k, zv_l A k = zv_l B k) : A = B := by
  refine List.ext_getElem? fun k => ?_
  rw [← zv_l_get, ← zv_l_get]
  exact h k
theorem zv_pn_ok {φ : List Nat} {p : List (Option Nat)} (h : zv_pn φ p = true) : (∀ j k, zv_l φ j = some k → k < p.length) ∧ ∀ k, k < p.length → (∃ j, zv_l p k = some (some j) ∧ zv_l φ j = some k) ∨ (zv_l p k = some none ∧ ∀ j, zv_l φ j ≠ some k) := by
  unfold zv_pn at h
  rw [Bool.and_eq_true] at h
  refine ⟨fun j k hj => ?_, fun k hk => ?_⟩
  · rw [zv_l_get] at hj
    exact z_blt (List.all_eq_true.mp h.1 k (List.mem_of_getElem? hj))
  · have h2 := List.all_eq_true.mp h.2 k (List.mem_range.mpr hk)
    obtain ⟨v, hv⟩ := zv_l_lt hk
    rw [hv] at h2
    cases v with
    | some j =>
      have h2 : (Nat.blt j φ.length && Nat.beq (zv_rc φ j) k) = true := h2
      rw [Bool.and_eq_true] at h2
      refine Or.inl ⟨j, hv, ?_⟩
      rw [← z_beq h2.2]
      exact zv_rc_at (z_blt h2.1)
    | none =>
      have h2 : φ.all (fun q => !(Nat.beq q k)) = true := h2
      refine Or.inr ⟨hv, fun j hj => ?_⟩
      rw [zv_l_get] at hj
      have := List.all_eq_true.mp h2 k (List.mem_of_getElem? hj)
      rw [Nat.beq_refl] at this
      cases this
theorem zv_l_none {α : Type} {L : List α} {k : Nat} (h : L.length ≤ k) : zv_l L k = none := by
  rw [zv_l_get]
  exact List.getElem?_eq_none h
theorem zv_mkF_eq {ρ φ : List Nat} {p : List (Option Nat)} {F F1 : List zNV} (hp : zv_pn φ p = true) (hn : zv_nd φ = true) (hF : p.length = F.length) (h1 : F1.length = φ.length) : zv_mkF ρ F1 p F = zv_pF ρ φ F F1 := by
  obtain ⟨p1, p2⟩ := zv_pn_ok hp
  refine zv_ext fun k => ?_
  rw [zv_mkF_l]
  rcases Nat.lt_or_ge k p.length with lt | ge
  · obtain ⟨f, hf⟩ := zv_l_lt (show k < F.length by omega)
    rcases p2 k lt with ⟨j, j1, j2⟩ | ⟨j1, j2⟩
    · obtain ⟨g, hg⟩ := zv_l_lt (show j < F1.length by rw [h1]; exact zv_l_len j2)
      rw [j1, zv_pF_at hn j2 hg ⟨f, hf⟩, hf]
      show some (zv_gt ρ F1 j f) = _
      unfold zv_gt
      rw [hg]
    · rw [j1, zv_pF_ne j2]
  · rw [zv_l_none ge, zv_pF_ne (fun j hj => by have := p1 j k hj; omega)]
theorem zv_mkG_eq {ψ : List Nat} {p : List (Option Nat)} {G G1 : List (Int → Int)} (hp : zv_pn ψ p = true) (hn : zv_nd ψ = true) (hF : p.length = G.length) (h1 : G1.length = ψ.length) : zv_mkG G1 p G = zv_pG ψ G G1 := by
  obtain ⟨p1, p2⟩ := zv_pn_ok hp
  refine zv_ext fun k => ?_
  rw [zv_mkG_l]
  rcases Nat.lt_or_ge k p.length with lt | ge
  · obtain ⟨f, hf⟩ := zv_l_lt (show k < G.length by omega)
    rcases p2 k lt with ⟨j, j1, j2⟩ | ⟨j1, j2⟩
    · obtain ⟨g, hg⟩ := zv_l_lt (show j < G1.length by rw [h1]; exact zv_l_len j2)
      rw [j1, zv_pG_at hn j2 hg ⟨f, hf⟩, hf]
      show some (zv_gg G1 j f) = _
      unfold zv_gg
      rw [hg]
    · rw [j1, zv_pG_ne j2]
  · rw [zv_l_none ge, zv_pG_ne (fun j hj => by have := p1 j k hj; omega)]
theorem zv_emq {TBL : List Cond} {cl : List vw_C} {KXf : (Nat → Nat) → Nat → State → Heap → Prop} {y1 y2 : zNL} {mm : zM} {rm : Nat × Nat} {va va2 F1 F1' F F' : List zNV} {G1 G1' G G' : List (Int → Int)} {r : Option Int} {ρ φ ψ : List Nat} (pF pG : List (Option Nat)) (hw1 : zv_wf y1 = true) (hw2 : zv_wf y2 = true) (hk2 : zv_ek2 y2 = true) (hk : (zv_ek y1 y2 ρ φ ψ && (zv_pn φ pF && zv_pn ψ pG)) = true) (h : zv_Fn TBL cl KXf y1 mm rm va F1 G1 r F1' G1') (hF : zv_mF ρ F φ F1) (hG : zv_mG G ψ G1)
    (l1 : pF.length = F.length) (l2 : F1'.length = φ.length) (l3 : pG.length = G.length) (l4 : G1'.length = ψ.length) (e1 : va.map (zv_rn ρ) = va2) (e2 : zv_mkF ρ F1' pF F = F') (e3 : zv_mkG G1' pG G = G') : zv_Fn TBL cl KXf y2 mm rm va2 F G r F' G' := by
  rw [Bool.and_eq_true, Bool.and_eq_true] at hk
  obtain ⟨hk, k1, k2⟩ := hk
  obtain ⟨⟨-, -, -, ndF, ndG, -⟩, -⟩ := zv_ek_ok hk
  subst e1; subst e2; subst e3
  rw [zv_mkF_eq k1 ndF l1 l2, zv_mkG_eq k2 ndG l3 l4]
  exact zv_emb hw1 hw2 hk2 hk h hF hG
section ZVCALLS
variable {cl : List vw_C} {FT : Nat → Nat → FieldType} {KXf : (Nat → Nat) → Nat → State → Heap → Prop} {TBL : List Cond} {MT : List zM} {y : zNL} {mm : zM} {K : zK} {rm : Nat × Nat} {good : Nat → List zNV → List zNV → List zNV → List (Int → Int) → Prop}
variable {pc : Nat} {L S S0 : List zNV} {F F' : List zNV} {G G' : List (Int → Int)} {i c : Nat} {mm2 : zM} {rm2 : Nat × Nat} {va : List zNV} {r : Option Int}
theorem zv_cv (hB : zv_B cl FT KXf TBL MT y mm K rm good) (hok : zv_Fn TBL cl KXf y mm2 rm2 (.inr c :: va) F G r F' G') (hd : decode mm.2.1 pc = .ok (.invokevirtual i, 3)) (hl : zv_lk K MT (fun k => Nat.beq k 0) i = some mm2)
    (hc : ((n_O y).any (fun o => Nat.beq o.1 c && Nat.beq o.2 mm2.2.2.2.2.2) && Nat.beq va.length mm2.2.2.2.2.1 && (Nat.ble S.length 8 && S.all zv_n1)) = true) (hr1 : rm2.1 + 1 ≤ rm.1) (hr2 : 8 + (mm2.2.2.1 + 11) + rm2.2 ≤ rm.2) (hs : S0 = va.reverse ++ .inr c :: S)
    (k : good (pc + 3) L (zv_ro r S) F' G') : good pc L S0 F G := by
  rw [Bool.and_eq_true, Bool.and_eq_true] at hc
  rw [hs]
  exact zv_inv0 (va := va) hB hok hd hl hc.1.1 hc.1.2 hc.2 (by rw [Nat.ble_eq_true_of_le hr1, Nat.ble_eq_true_of_le hr2]; rfl) ⟨rfl, rfl, rfl⟩ (fun r2 F2 G2 h => by obtain ⟨rfl, rfl, rfl⟩ := h; exact k)
theorem zv_cs (hB : zv_B cl FT KXf TBL MT y mm K rm good) (hok : zv_Fn TBL cl KXf y mm2 rm2 va F G r F' G') (hd : decode mm.2.1 pc = .ok (.invokestatic i, 3)) (hl : zv_lk K MT (fun k => Nat.beq k 1 || Nat.beq k 4) i = some mm2)
    (hc : (Nat.beq va.length mm2.2.2.2.2.1 && (Nat.ble S.length 8 && S.all zv_n1)) = true) (hr1 : rm2.1 + 1 ≤ rm.1) (hr2 : 8 + (mm2.2.2.1 + 11) + rm2.2 ≤ rm.2) (hs : S0 = va.reverse ++ S)
    (k : good (pc + 3) L (zv_ro r S) F' G') : good pc L S0 F G := by
  rw [Bool.and_eq_true] at hc
  rw [hs]
  exact zv_inv1 (va := va) hB hok hd hl hc.1 hc.2 (by rw [Nat.ble_eq_true_of_le hr1, Nat.ble_eq_true_of_le hr2]; rfl) ⟨rfl, rfl, rfl⟩ (fun r2 F2 G2 h => by obtain ⟨rfl, rfl, rfl⟩ := h; exact k)
end ZVCALLS
