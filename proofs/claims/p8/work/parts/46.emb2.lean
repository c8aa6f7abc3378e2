/-! A contract over some names is used over more of them: the theorem. -/
theorem zv_wfOO {y : zNL} (h : zv_wf y = true) {q u : Nat × Nat} (hq : q ∈ n_O y) (hu : u ∈ n_O y) (e : q.1 = u.1) : q.2 = u.2 := by
  unfold zv_wf at h
  simp only [Bool.and_eq_true] at h
  have h1 := List.all_eq_true.mp h.1.2 q hq
  simp only [Bool.and_eq_true] at h1
  have h2 := List.all_eq_true.mp h1.1.1.2 u hu
  simp only [Bool.or_eq_true, Bool.not_eq_true'] at h2
  rcases h2 with h3 | h3
  · rw [e, Nat.beq_refl] at h3; cases h3
  · exact z_beq h3
theorem zv_st_rn {ρ : List Nat} {A : Nat → Nat} : ∀ {va : List zNV} {vals : List Value}, zv_st A (va.map (zv_rn ρ)) vals → zv_st (fun c => A (zv_rc ρ c)) va vals
  | [], _, h => h
  | .inl x :: va, _, ⟨w, k', e, hv, h⟩ => ⟨w, k', e, hv, zv_st_rn (va := va) h⟩
  | .inr c :: va, _, ⟨w, k', e, hv, h⟩ => ⟨w, k', e, hv, zv_st_rn (va := va) h⟩
def zv_Fn (TBL : List Cond) (cl : List vw_C) (KXf : (Nat → Nat) → Nat → State → Heap → Prop) (y : zNL) (mm : zM) (rm : Nat × Nat) (va F : List zNV) (G : List (Int → Int)) (r : Option Int) (F' : List zNV) (G' : List (Int → Int)) : Prop :=
  zv_OK TBL cl KXf y mm rm (fun a b c => a = va ∧ b = F ∧ c = G) (fun _ _ _ q b c => q = r ∧ b = F' ∧ c = G')
def zv_ek2 (y2 : zNL) : Bool := Nat.ble (n_N y2) 900 && (n_R y2).all (fun q => (n_O y2).any (fun u => Nat.beq u.1 q.1 && Nat.beq u.2 q.2.1))
section ZVEMB
variable {y1 y2 : zNL} {ρ φ ψ : List Nat}
theorem zv_any4 {L : List (Nat × Nat × Nat × Nat)} {b : Nat × Nat × Nat × Nat} (h : L.any (fun u => zv_e4 u b) = true) : b ∈ L := by
  obtain ⟨u, hu, h2⟩ := List.any_eq_true.mp h
  rw [← zv_e4_ok h2]; exact hu
theorem zv_ek_ok (hk : zv_ek y1 y2 ρ φ ψ = true) : (ρ.length = n_N y1 ∧ ρ.length ≤ 900 ∧ zv_nd ρ = true ∧ zv_nd φ = true ∧ zv_nd ψ = true ∧ ∀ d ∈ ρ, d < n_N y2) ∧
    ((∀ q ∈ n_O y1, (zv_rc ρ q.1, q.2) ∈ n_O y2) ∧ (∀ q ∈ n_I y1, q.2.2.2 < φ.length ∧ (zv_rc ρ q.1, q.2.1, q.2.2.1, zv_rc φ q.2.2.2) ∈ n_I y2) ∧ (∀ q ∈ n_R y1, (zv_rc ρ q.1, q.2.1, q.2.2.1, zv_rc ρ q.2.2.2) ∈ n_R y2) ∧ (∀ q ∈ n_A y1, q.2.2.2 < ψ.length ∧ (zv_rc ρ q.1, q.2.1, q.2.2.1, zv_rc ψ q.2.2.2) ∈ n_A y2)) ∧
    (∀ c, c < ρ.length → (∃ q ∈ n_O y1, q.1 = c) ∨ ∃ q ∈ n_A y1, q.1 = c) ∧ (∀ j, j < φ.length → ∃ q ∈ n_I y1, q.2.2.2 = j) ∧ ∀ j, j < ψ.length → ∃ q ∈ n_A y1, q.2.2.2 = j := by
  unfold zv_ek at hk
  simp only [Bool.and_eq_true] at hk
  obtain ⟨⟨⟨⟨⟨⟨a1, a2⟩, a3⟩, a4, a5⟩, a6⟩, ⟨⟨b1, b2⟩, b3⟩, b4⟩, ⟨c1, c2⟩, c3⟩ := hk
  refine ⟨⟨z_beq a1, Nat.le_of_ble_eq_true a2, a3, a4, a5, fun d hd => z_blt (List.all_eq_true.mp a6 d hd)⟩, ⟨fun q hq => ?_, fun q hq => ?_, fun q hq => ?_, fun q hq => ?_⟩, fun c hc => ?_, fun j hj => ?_, fun j hj => ?_⟩
  · obtain ⟨u, hu, h2⟩ := List.any_eq_true.mp (List.all_eq_true.mp b1 q hq)
    rw [Bool.and_eq_true] at h2
    rw [← z_beq h2.1, ← z_beq h2.2]; exact hu
  · have h2 := List.all_eq_true.mp b2 q hq
    rw [Bool.and_eq_true] at h2
    exact ⟨z_blt h2.1, zv_any4 h2.2⟩
  · exact zv_any4 (List.all_eq_true.mp b3 q hq)
  · have h2 := List.all_eq_true.mp b4 q hq
    rw [Bool.and_eq_true] at h2
    exact ⟨z_blt h2.1, zv_any4 h2.2⟩
  · have h2 := List.all_eq_true.mp c1 c (List.mem_range.mpr hc)
    rw [Bool.or_eq_true] at h2
    rcases h2 with h2 | h2
    · obtain ⟨u, hu, h3⟩ := List.any_eq_true.mp h2
      exact Or.inl ⟨u, hu, z_beq h3⟩
    · obtain ⟨u, hu, h3⟩ := List.any_eq_true.mp h2
      exact Or.inr ⟨u, hu, z_beq h3⟩
  · obtain ⟨u, hu, h3⟩ := List.any_eq_true.mp (List.all_eq_true.mp c2 j (List.mem_range.mpr hj))
    exact ⟨u, hu, z_beq h3⟩
  · obtain ⟨u, hu, h3⟩ := List.any_eq_true.mp (List.all_eq_true.mp c3 j (List.mem_range.mpr hj))
    exact ⟨u, hu, z_beq h3⟩
theorem zv_rc_at {c : Nat} (h : c < ρ.length) : zv_l ρ c = some (zv_rc ρ c) := by
  obtain ⟨v, hv⟩ := zv_l_lt h
  rw [zv_rc_of hv]; exact hv
theorem zv_rc_out {c : Nat} (h : ρ.length ≤ c) : zv_rc ρ c = c := by
  unfold zv_rc
  rw [zv_l_get, List.getElem?_eq_none h]
theorem zv_rc_in {c : Nat} (h : c < ρ.length) : zv_rc ρ c ∈ ρ := by
  have := zv_rc_at h
  rw [zv_l_get] at this
  exact List.mem_of_getElem? this
end ZVEMB
theorem zv_emb {TBL : List Cond} {cl : List vw_C} {KXf : (Nat → Nat) → Nat → State → Heap → Prop} {y1 y2 : zNL} {mm : zM} {rm : Nat × Nat} {va F1 F1' F : List zNV} {G1 G1' G : List (Int → Int)} {r : Option Int} {ρ φ ψ : List Nat} (hw1 : zv_wf y1 = true) (hw2 : zv_wf y2 = true) (hk2 : zv_ek2 y2 = true) (hk : zv_ek y1 y2 ρ φ ψ = true) (h : zv_Fn TBL cl KXf y1 mm rm va F1 G1 r F1' G1') (hF : zv_mF ρ F φ F1) (hG : zv_mG G ψ G1) : zv_Fn TBL cl KXf y2 mm rm (va.map (zv_rn ρ)) F G r (zv_pF ρ φ F F1') (zv_pG ψ G G1') := by
  intro l OB D DA sz A va2 F2 G2 hP hinj hge hOB
  obtain ⟨rfl, rfl, rfl⟩ := hP
  obtain ⟨⟨hN, h9, ndR, ndF, ndG, hlt⟩, ⟨hO, hI, hR, hA⟩, hc, hpF, hpG⟩ := zv_ek_ok hk
  unfold zv_ek2 at hk2
  rw [Bool.and_eq_true] at hk2
  have h29 : n_N y2 ≤ 900 := Nat.le_of_ble_eq_true hk2.1
  have hRO : ∀ q ∈ n_R y2, ∃ u ∈ n_O y2, u.1 = q.1 ∧ u.2 = q.2.1 := fun q hq => by
    obtain ⟨u, hu, h3⟩ := List.any_eq_true.mp (List.all_eq_true.mp hk2.2 q hq)
    rw [Bool.and_eq_true] at h3
    exact ⟨u, hu, z_beq h3.1, z_beq h3.2⟩
  have rlt : ∀ {c}, c < n_N y1 → zv_rc ρ c < n_N y2 := fun {c} h => hlt _ (zv_rc_in (by omega))
  have rinj : ∀ {a b}, a < n_N y1 → b < n_N y1 → zv_rc ρ a = zv_rc ρ b → a = b := fun {a b} ha hb e => zv_nd_ok ndR (zv_rc_at (by omega)) (by rw [e]; exact zv_rc_at (by omega))
  have rk : ∀ {c}, c < 1000 → zv_rc ρ c < 1000 := fun {c} h => by
    rcases Nat.lt_or_ge c ρ.length with q | q
    · have := rlt (c := c) (by omega); omega
    · rw [zv_rc_out q]; exact h
  have rk2 : ∀ {c}, zv_rc ρ c < 1000 → c < 1000 := fun {c} h => by
    rcases Nat.lt_or_ge c ρ.length with q | q
    · omega
    · rw [zv_rc_out q] at h; exact h
  have hok := h l OB D DA sz (fun c => A (zv_rc ρ c)) va F1 G1 ⟨rfl, rfl, rfl⟩ (fun a b ha hb e => rinj ha hb (hinj _ _ (rlt ha) (rlt hb) e)) (fun a ha => hge _ (rlt ha)) (fun k => by show A (zv_rc ρ (900 + k)) = _; rw [zv_rc_out (by omega)]; exact hOB k)
  intro p e hadm hf1 hf2 s m args below hfr happ hPre hK0
  obtain ⟨vals, rfl, hst, hrep, hsz, hK, hX⟩ := hPre
  have rep1 : zv_rep D DA cl y1 (fun c => A (zv_rc ρ c)) F1 G1 s.heap := by
    refine ⟨fun q hq => ?_, fun q hq => ?_, fun q hq => ?_, fun q hq => ?_⟩
    · exact hrep.1 _ (hO q hq)
    · obtain ⟨hl, hm⟩ := hI q hq
      obtain ⟨r0, w, f, c1, c2, c3, c4, c5⟩ := hrep.2.1 _ hm
      obtain ⟨f1, g, e1, e2, e3⟩ := zv_mF_at hF (zv_rc_at hl)
      have c4 : zv_l F2 (zv_rc φ q.2.2.2) = some f := c4
      rw [c4] at e2
      cases e2
      refine ⟨r0, w, f1, c1, c2, c3, e1, fun his => ?_⟩
      have ef := e3 his
      match f1, his, ef with
      | .inl x, _, ef => rw [ef] at c5; exact c5 trivial
      | .inr c, his, ef => rw [ef] at c5; exact c5 (rk his)
    · exact hrep.2.2.1 _ (hR q hq)
    · obtain ⟨hl, hm⟩ := hA q hq
      obtain ⟨f, g, x1, x2, x3⟩ := hrep.2.2.2 _ hm
      obtain ⟨g1, e1, e2⟩ := zv_mG_at hG (zv_rc_at hl)
      have x2 : zv_l G2 (zv_rc ψ q.2.2.2) = some g := x2
      rw [x2] at e2
      cases e2
      exact ⟨f, g, x1, e1, x3⟩
  obtain ⟨n, o, k1, k2, k3, k4, k5⟩ := hok p e hadm hf1 hf2 s m _ below hfr happ ⟨vals, rfl, zv_st_rn hst, rep1, hsz, hK, hX⟩ trivial
  refine ⟨n, o, k1, k2, k3, ?_, k5⟩
  obtain ⟨r', v, F', G', e0, q1, q2, q3, rfl, rfl, rfl⟩ := k4
  have hun : ∀ b, b < n_N y2 → (¬ ∃ c, c < n_N y1 ∧ zv_rc ρ c = b) → (_ : Heap)[A b]? = s.heap[A b]? := fun b hb hne => q3.2.1 (A b) (fun c hc e => hne ⟨c, hc, hinj _ _ (rlt hc) hb e⟩)
  have nFr : ∀ q ∈ n_I y2, (∀ u ∈ n_I y1, ¬ (zv_rc ρ u.1 = q.1 ∧ u.2.2.1 = q.2.2.1)) → ∀ j, zv_l φ j ≠ some q.2.2.2 := fun q hq hne j hj => by
    obtain ⟨u, hu, ej⟩ := hpF j (zv_l_len hj)
    obtain ⟨hl, hm⟩ := hI u hu
    have ep : zv_rc φ u.2.2.2 = q.2.2.2 := by rw [ej]; exact zv_rc_of hj
    obtain ⟨w1, w2⟩ := zv_wfI hw2 hm hq
    exact hne u hu (w1.mp ep)
  have nGr : ∀ q ∈ n_A y2, (∀ u ∈ n_A y1, zv_rc ρ u.1 ≠ q.1) → ∀ j, zv_l ψ j ≠ some q.2.2.2 := fun q hq hne j hj => by
    obtain ⟨u, hu, ej⟩ := hpG j (zv_l_len hj)
    obtain ⟨hl, hm⟩ := hA u hu
    have ep : zv_rc ψ u.2.2.2 = q.2.2.2 := by rw [ej]; exact zv_rc_of hj
    exact hne u hu (((zv_wfA hw2 hm).2.1 q hq).1.mp ep)
  refine ⟨r', v, _, _, e0, q1, ⟨fun q hq => ?_, fun q hq => ?_, fun q hq => ?_, fun q hq => ?_⟩, ⟨q3.1, fun b hb => q3.2.1 b (fun c hc => hb _ (rlt hc)), fun q hq r0 k w hcl hkr hni hs => ?_⟩, rfl, rfl, rfl⟩
  · have hq1 := (zv_wfO hw2 hq).1
    by_cases him : ∃ c, c < n_N y1 ∧ zv_rc ρ c = q.1
    · obtain ⟨c, c1, c2⟩ := him
      rcases hc c (by omega) with ⟨u, hu, eu⟩ | ⟨u, hu, eu⟩
      · have ecl := zv_wfOO hw2 (hO u hu) hq (by show zv_rc ρ u.1 = q.1; rw [eu]; exact c2)
        obtain ⟨r0, V, y3, y4⟩ := q2.1 u hu
        have ecl : u.2 = q.2 := ecl
        rw [ecl] at y3 y4
        have ea : A (zv_rc ρ u.1) = A q.1 := by rw [eu, c2]
        exact ⟨r0, V, y3, by rw [← ea]; exact y4⟩
      · exact absurd (by show q.1 = zv_rc ρ u.1; rw [eu, c2]) ((zv_wfO hw2 hq).2.1 _ (hA u hu).2)
    · obtain ⟨r0, V, y3, y4⟩ := hrep.1 q hq
      exact ⟨r0, V, y3, y4.kept (hun _ hq1 him)⟩
  · obtain ⟨hq1, oo, ho, ho1, ho2⟩ := zv_wfIn hw2 hq
    obtain ⟨r0, w, f, c1, c2, c3, c4, c5⟩ := hrep.2.1 q hq
    by_cases hin : ∃ u ∈ n_I y1, zv_rc ρ u.1 = q.1 ∧ u.2.2.1 = q.2.2.1
    · obtain ⟨u, hu, eu1, eu2⟩ := hin
      obtain ⟨hl, hm⟩ := hI u hu
      obtain ⟨w1, w2⟩ := zv_wfI hw2 hm hq
      have ep : zv_rc φ u.2.2.2 = q.2.2.2 := w1.mpr ⟨eu1, eu2⟩
      have ec : u.2.1 = q.2.1 := w2 eu1
      obtain ⟨r1, w', f', d1, d2, d3, d4, d5⟩ := q2.2.1 u hu
      have hlp := zv_rc_at hl
      rw [ep] at hlp
      rw [ec] at d1 d3
      rw [eu2] at d2 d3
      have ea : A (zv_rc ρ u.1) = A q.1 := by rw [eu1]
      refine ⟨r1, w', zv_rn ρ f', d1, d2, by rw [← ea]; exact d3, zv_pF_at ndF hlp d4 ⟨f, c4⟩, fun his => ?_⟩
      match f', his, d5 with
      | .inl x, _, d5 => exact d5 trivial
      | .inr c, his, d5 => exact d5 (rk2 his)
    · have hne : ∀ u ∈ n_I y1, ¬ (zv_rc ρ u.1 = q.1 ∧ u.2.2.1 = q.2.2.1) := fun u hu he => hin ⟨u, hu, he⟩
      refine ⟨r0, w, f, c1, c2, ?_, by rw [zv_pF_ne (nFr q hq hne)]; exact c4, c5⟩
      by_cases him : ∃ c, c < n_N y1 ∧ zv_rc ρ c = q.1
      · obtain ⟨c, x1, x2⟩ := him
        rcases hc c (by omega) with ⟨u, hu, eu⟩ | ⟨u, hu, eu⟩
        · have ecl : u.2 = oo.2 := zv_wfOO (q := (zv_rc ρ u.1, u.2)) hw2 (hO u hu) ho (by show zv_rc ρ u.1 = oo.1; rw [eu, ho1]; exact x2)
          have ea : A (zv_rc ρ u.1) = A q.1 := by rw [eu, x2]
          have := q3.2.2 u hu r0 q.2.2.1 w (by rw [ecl, ho2]; exact c1) c2 (fun i hi e1 e2 => hne i hi ⟨by rw [e1, eu]; exact x2, e2⟩) (by show z_sl _ (A (zv_rc ρ u.1)) _ _; rw [ea, ecl, ho2]; exact c3)
          have this : z_sl _ (A (zv_rc ρ u.1)) (D.2 u.2 q.2.2.1) w := this
          rw [ea, ecl, ho2] at this
          exact this
        · exact absurd (by show oo.1 = zv_rc ρ u.1; rw [ho1, eu, x2]) ((zv_wfO hw2 ho).2.1 _ (hA u hu).2)
      · exact z_sl_kept c3 (hun _ hq1 him)
  · obtain ⟨hq1, -⟩ := zv_wfR hw2 hq
    obtain ⟨r0, c1, c2, c3⟩ := hrep.2.2.1 q hq
    obtain ⟨oo, ho, ho1, ho2⟩ := hRO q hq
    refine ⟨r0, c1, c2, ?_⟩
    by_cases him : ∃ c, c < n_N y1 ∧ zv_rc ρ c = q.1
    · obtain ⟨c, x1, x2⟩ := him
      rcases hc c (by omega) with ⟨u, hu, eu⟩ | ⟨u, hu, eu⟩
      · have ecl : u.2 = oo.2 := zv_wfOO (q := (zv_rc ρ u.1, u.2)) hw2 (hO u hu) ho (by show zv_rc ρ u.1 = oo.1; rw [eu, ho1]; exact x2)
        have ea : A (zv_rc ρ u.1) = A q.1 := by rw [eu, x2]
        have := q3.2.2 u hu r0 q.2.2.1 _ (by rw [ecl, ho2]; exact c1) c2 (fun i hi e1 e2 => (zv_wfIR hw2 (hI i hi).2 hq).1 ⟨by show zv_rc ρ i.1 = q.1; rw [e1, eu]; exact x2, e2⟩) (by show z_sl _ (A (zv_rc ρ u.1)) _ _; rw [ea, ecl, ho2]; exact c3)
        have this : z_sl _ (A (zv_rc ρ u.1)) (D.2 u.2 q.2.2.1) _ := this
        rw [ea, ecl, ho2] at this
        exact this
      · exact absurd (by show oo.1 = zv_rc ρ u.1; rw [ho1, eu, x2]) ((zv_wfO hw2 ho).2.1 _ (hA u hu).2)
    · exact z_sl_kept c3 (hun _ hq1 him)
  · obtain ⟨hq1, w2, w3, w4⟩ := zv_wfA hw2 hq
    obtain ⟨f, g, x1, x2, x3⟩ := hrep.2.2.2 q hq
    by_cases hin : ∃ u ∈ n_A y1, zv_rc ρ u.1 = q.1
    · obtain ⟨u, hu, eu⟩ := hin
      obtain ⟨hl, hm⟩ := hA u hu
      obtain ⟨p1, p2⟩ := w2 _ hm
      obtain ⟨p3, p4⟩ := p2 eu.symm
      have ep : q.2.2.2 = zv_rc ψ u.2.2.2 := p1.mpr eu.symm
      have p3 : q.2.1 = u.2.1 := p3
      have p4 : q.2.2.1 = u.2.2.1 := p4
      obtain ⟨f', g', z1, z2, z3⟩ := q2.2.2.2 u hu
      have hlp := zv_rc_at hl
      rw [← ep] at hlp
      have ea : A (zv_rc ρ u.1) = A q.1 := by rw [eu]
      refine ⟨f', g', ?_, zv_pG_at ndG hlp z2 ⟨g, x2⟩, by rw [p4]; exact z3⟩
      rw [← ea, p3, p4]
      exact z1
    · have hne : ∀ u ∈ n_A y1, zv_rc ρ u.1 ≠ q.1 := fun u hu he => hin ⟨u, hu, he⟩
      refine ⟨f, g, ?_, by rw [zv_pG_ne (nGr q hq hne)]; exact x2, x3⟩
      by_cases him : ∃ c, c < n_N y1 ∧ zv_rc ρ c = q.1
      · obtain ⟨c, y1', y2'⟩ := him
        rcases hc c (by omega) with ⟨u, hu, eu⟩ | ⟨u, hu, eu⟩
        · exact absurd (by show zv_rc ρ u.1 = q.1; rw [eu]; exact y2') ((zv_wfO hw2 (hO u hu)).2.1 _ hq)
        · exact absurd (by rw [eu]; exact y2') (hne u hu)
      · rw [hun _ hq1 him]; exact x1
  · have hq1 := (zv_wfO hw2 hq).1
    by_cases him : ∃ c, c < n_N y1 ∧ zv_rc ρ c = q.1
    · obtain ⟨c, x1, x2⟩ := him
      rcases hc c (by omega) with ⟨u, hu, eu⟩ | ⟨u, hu, eu⟩
      · have ecl : u.2 = q.2 := zv_wfOO (q := (zv_rc ρ u.1, u.2)) hw2 (hO u hu) hq (by show zv_rc ρ u.1 = q.1; rw [eu]; exact x2)
        have ea : A (zv_rc ρ u.1) = A q.1 := by rw [eu, x2]
        have := q3.2.2 u hu r0 k w (by rw [ecl]; exact hcl) hkr (fun i hi e1 e2 => hni _ (hI i hi).2 (by show zv_rc ρ i.1 = q.1; rw [e1, eu]; exact x2) e2) (by show z_sl _ (A (zv_rc ρ u.1)) _ _; rw [ea, ecl]; exact hs)
        have this : z_sl _ (A (zv_rc ρ u.1)) (D.2 u.2 k) w := this
        rw [ea, ecl] at this
        exact this
      · exact absurd (by show q.1 = zv_rc ρ u.1; rw [eu, x2]) ((zv_wfO hw2 hq).2.1 _ (hA u hu).2)
    · exact z_sl_kept hs (hun _ hq1 him)
section ZVCALLS
variable {cl : List vw_C} {FT : Nat → Nat → FieldType} {KXf : (Nat → Nat) → Nat → State → Heap → Prop} {TBL : List Cond} {MT : List zM} {y : zNL} {mm : zM} {K : zK} {rm : Nat × Nat} {good : Nat → List zNV → List zNV → List zNV → List (Int → Int) → Prop}
variable {pc : Nat} {L S S0 : List zNV} {F F' : List zNV} {G G' : List (Int → Int)} {i c : Nat} {mm2 : zM} {rm2 : Nat × Nat} {va : List zNV} {r : Option Int}
theorem zv_cv (hB : zv_B cl FT KXf TBL MT y mm K rm good) (hok : zv_Fn TBL cl KXf y mm2 rm2 (.inr c :: va) F G r F' G') (hd : decode mm.2.1 pc = .ok (.invokevirtual i, 3)) (hl : zv_lk K MT (fun k => Nat.beq k 0) i = some mm2)
    (hc : ((n_O y).any (fun o => Nat.beq o.1 c && Nat.beq o.2 mm2.2.2.2.2.2) && Nat.beq va.length mm2.2.2.2.2.1 && Nat.ble S.length 8) = true) (hr1 : rm2.1 + 1 ≤ rm.1) (hr2 : 8 + (mm2.2.2.1 + 11) + rm2.2 ≤ rm.2) (hs : S0 = va.reverse ++ .inr c :: S)
    (k : good (pc + 3) L (zv_ro r S) F' G') : good pc L S0 F G := by
  rw [Bool.and_eq_true, Bool.and_eq_true] at hc
  rw [hs]
  exact zv_inv0 (va := va) hB hok hd hl hc.1.1 hc.1.2 hc.2 (by rw [Nat.ble_eq_true_of_le hr1, Nat.ble_eq_true_of_le hr2]; rfl) ⟨rfl, rfl, rfl⟩ (fun r2 F2 G2 h => by obtain ⟨rfl, rfl, rfl⟩ := h; exact k)
theorem zv_cs (hB : zv_B cl FT KXf TBL MT y mm K rm good) (hok : zv_Fn TBL cl KXf y mm2 rm2 va F G r F' G') (hd : decode mm.2.1 pc = .ok (.invokestatic i, 3)) (hl : zv_lk K MT (fun k => Nat.beq k 1 || Nat.beq k 4) i = some mm2)
    (hc : (Nat.beq va.length mm2.2.2.2.2.1 && Nat.ble S.length 8) = true) (hr1 : rm2.1 + 1 ≤ rm.1) (hr2 : 8 + (mm2.2.2.1 + 11) + rm2.2 ≤ rm.2) (hs : S0 = va.reverse ++ S)
    (k : good (pc + 3) L (zv_ro r S) F' G') : good pc L S0 F G := by
  rw [Bool.and_eq_true] at hc
  rw [hs]
  exact zv_inv1 (va := va) hB hok hd hl hc.1 hc.2 (by rw [Nat.ble_eq_true_of_le hr1, Nat.ble_eq_true_of_le hr2]; rfl) ⟨rfl, rfl, rfl⟩ (fun r2 F2 G2 h => by obtain ⟨rfl, rfl, rfl⟩ := h; exact k)
end ZVCALLS
