/-! What a run of steps of a law comes to: for both machines at once, made up of its pieces. -/
theorem zl_ns {α : Type} {v : α} {P : Prop} (h : (none : Option α) = some v) : P := by cases h
theorem zl_sn {α : Type} {v : α} {P : Prop} (h : some v = (none : Option α)) : P := by cases h
/-- what a run of steps leaves at a height: a value, and what lies below as it was; or it is refused -/
def zd_eff {α : Type} (h : Int) (S : Int → Int) (r : Option Int) (A : Nat → Option α) (B : Nat → (Int → Int) → Option α) (bad : (Int → Int) → α) (len : Nat) : Prop :=
  ∃ (k : Nat) (S' : Int → Int), k ≤ len ∧ (∀ j, j < h → S' j = S j) ∧ (r = none → ∀ n, A (n + k + 1) = some (bad S')) ∧ ∀ v, r = some v → S' h = v ∧ ∀ n, A (n + k) = B n S'
theorem zd_leaf {α : Type} {h : Int} {S : Int → Int} {A : Nat → Option α} {B : Nat → (Int → Int) → Option α} {bad : (Int → Int) → α} {v : Int} (hA : ∀ n, A (n + 1) = B n (zv_up S h v)) : zd_eff h S (some v) A B bad 1 :=
  ⟨1, zv_up S h v, Nat.le_refl _, fun j hj => zv_up_n (by omega), fun hn => zl_sn hn, fun w hw => by
    cases hw
    exact ⟨zv_up_s, hA⟩⟩
theorem zd_two {α : Type} {h : Int} {S : Int → Int} {r1 r2 : Option Int} {opr : Int → Int → Option Int} {A : Nat → Option α} {B C D : Nat → (Int → Int) → Option α} {bad : (Int → Int) → α} {l1 l2 : Nat}
    (e1 : zd_eff h S r1 A B bad l1) (e2 : ∀ S1, zd_eff (h + 1) S1 r2 (fun n => B n S1) C bad l2)
    (hop : ∀ S2 x y, r1 = some x → r2 = some y → S2 h = x → S2 (h + 1) = y → (opr x y = none → ∀ n, C (n + 1) S2 = some (bad S2)) ∧ ∀ z, opr x y = some z → ∀ n, C (n + 1) S2 = D n (zv_up S2 h z)) :
    zd_eff h S (r1.bind fun x => r2.bind fun y => opr x y) A D bad (l1 + l2 + 1) := by
  obtain ⟨k1, S1, b1, f1, n1, s1⟩ := e1
  cases hr1 : r1 with
  | none => exact ⟨k1, S1, by omega, f1, fun _ => n1 hr1, fun v hv => zl_ns hv⟩
  | some x =>
    obtain ⟨v1, s1⟩ := s1 x hr1
    obtain ⟨k2, S2, b2, f2, n2, s2⟩ := e2 S1
    have low : ∀ j, j < h → S2 j = S j := fun j hj => (f2 j (by omega)).trans (f1 j hj)
    cases hr2 : r2 with
    | none =>
      refine ⟨k1 + k2, S2, by omega, low, fun _ n => ?_, fun v hv => zl_ns hv⟩
      rw [show n + (k1 + k2) + 1 = (n + k2 + 1) + k1 by omega, s1]
      exact n2 hr2 n
    | some y =>
      obtain ⟨v2, s2⟩ := s2 y hr2
      obtain ⟨o1, o2⟩ := hop S2 x y hr1 hr2 ((f2 h (by omega)).trans v1) v2
      cases ho : opr x y with
      | none =>
        refine ⟨k1 + k2, S2, by omega, low, fun _ n => ?_, fun v hv => ?_⟩
        · rw [show n + (k1 + k2) + 1 = ((n + 1) + k2) + k1 by omega, s1]
          exact (s2 (n + 1)).trans (o1 ho n)
        · have hv : opr x y = some v := hv
          rw [ho] at hv
          exact zl_ns hv
      | some z =>
        refine ⟨k1 + k2 + 1, zv_up S2 h z, by omega, fun j hj => by rw [zv_up_n (by omega)]; exact low j hj, fun hn => ?_, fun v hv => ?_⟩
        · have hn : opr x y = none := hn
          rw [ho] at hn
          exact zl_sn hn
        · have hv : opr x y = some v := hv
          rw [ho] at hv
          cases hv
          refine ⟨zv_up_s, fun n => ?_⟩
          rw [show n + (k1 + k2 + 1) = ((n + 1) + k2) + k1 by omega, s1]
          exact (s2 (n + 1)).trans (o2 z ho n)
theorem zd_map {α : Type} {h : Int} {S : Int → Int} {r1 : Option Int} {f : Int → Int} {A : Nat → Option α} {B D : Nat → (Int → Int) → Option α} {bad : (Int → Int) → α} {l1 : Nat}
    (e1 : zd_eff h S r1 A B bad l1) (hm : ∀ S1 x, r1 = some x → S1 h = x → ∀ n, B (n + 1) S1 = D n (zv_up S1 h (f x))) : zd_eff h S (r1.map f) A D bad (l1 + 1) := by
  obtain ⟨k1, S1, b1, f1, n1, s1⟩ := e1
  cases hr1 : r1 with
  | none => exact ⟨k1, S1, by omega, f1, fun _ => n1 hr1, fun v hv => zl_ns hv⟩
  | some x =>
    obtain ⟨v1, s1⟩ := s1 x hr1
    refine ⟨k1 + 1, zv_up S1 h (f x), by omega, fun j hj => by rw [zv_up_n (by omega)]; exact f1 j hj, fun hn => zl_sn hn, fun v hv => ?_⟩
    have hv : some (f x) = some v := hv
    cases hv
    refine ⟨zv_up_s, fun n => ?_⟩
    rw [show n + (k1 + 1) = (n + 1) + k1 by omega, s1]
    exact hm S1 x hr1 v1 n
theorem zd_jump {α : Type} {h : Int} {S : Int → Int} {r1 r2 : Option Int} {tk : Int → Bool} {A : Nat → Option α} {B B2 D : Nat → (Int → Int) → Option α} {bad : (Int → Int) → α} {l1 l2 : Nat}
    (e1 : zd_eff h S r1 A B bad l1)
    (ht : ∀ S1 x, r1 = some x → S1 h = x → tk x = true → ∀ n, B (n + 1) S1 = D n S1)
    (hf : ∀ S1 x, r1 = some x → S1 h = x → tk x = false → ∀ n, B (n + 1) S1 = B2 n S1)
    (e2 : ∀ S1, zd_eff h S1 r2 (fun n => B2 n S1) D bad l2) :
    zd_eff h S (r1.bind fun x => if tk x = true then some x else r2) A D bad (l1 + l2 + 1) := by
  obtain ⟨k1, S1, b1, f1, n1, s1⟩ := e1
  cases hr1 : r1 with
  | none => exact ⟨k1, S1, by omega, f1, fun _ => n1 hr1, fun v hv => zl_ns hv⟩
  | some x =>
    obtain ⟨v1, s1⟩ := s1 x hr1
    cases hk : tk x with
    | true =>
      have e : ((some x).bind fun x => if tk x = true then some x else r2) = some x := by
        show (if tk x = true then some x else r2) = some x
        rw [if_pos hk]
      rw [e]
      refine ⟨k1 + 1, S1, by omega, f1, fun hn => zl_sn hn, fun v hv => ?_⟩
      cases hv
      refine ⟨v1, fun n => ?_⟩
      rw [show n + (k1 + 1) = (n + 1) + k1 by omega, s1]
      exact ht S1 x hr1 v1 hk n
    | false =>
      have e : ((some x).bind fun x => if tk x = true then some x else r2) = r2 := by
        show (if tk x = true then some x else r2) = r2
        rw [if_neg (by rw [hk]; decide)]
      rw [e]
      obtain ⟨k2, S2, b2, f2, n2, s2⟩ := e2 S1
      refine ⟨k1 + k2 + 1, S2, by omega, fun j hj => (f2 j hj).trans (f1 j hj), fun hn n => ?_, fun v hv => ?_⟩
      · rw [show n + (k1 + k2 + 1) + 1 = ((n + k2 + 1) + 1) + k1 by omega, s1, hf S1 x hr1 v1 hk]
        exact n2 hn n
      · obtain ⟨v2, s2⟩ := s2 v hv
        refine ⟨v2, fun n => ?_⟩
        rw [show n + (k1 + k2 + 1) = ((n + k2) + 1) + k1 by omega, s1, hf S1 x hr1 v1 hk]
        exact s2 n
/-- steps that agree, on both sides -/
def zd_ag (K V : Int → Int) (a b : Int) (K' V' C' : Int → Int) : Prop := ∀ j, a ≤ j → j < b → K' j = K j ∧ V' j = V j ∧ C' j = 1048576 * zd_op (K j) + V j
def zd_fx (ρ : Option Int) (K V lt C : Int → Int) (a b h en f0 : Int) (S : Int → Int) : Prop :=
  zd_eff h S ρ (fun n => zf_Law_run_l0 en f0 K V lt n (h - 1) a S) (fun n S' => zf_Law_run_l0 en f0 K V lt n h b S') (fun S' => .inr (0, f0, S')) (b - a).toNat ∧
  zd_eff h S ρ (fun n => zf_M_comesTo_l0 en 0 C lt n h a S) (fun n S' => zf_M_comesTo_l0 en 0 C lt n (h + 1) b S') (fun S' => .inr (0, S')) (b - a).toNat
/-- the steps from a up to b come to ρ of the letters; cb: to 0 or 1 alone -/
def zd_seg (cb : Bool) (K V : Int → Int) (a b nd : Int) (ρ : (Int → Int) → Option Int) : Prop := (0 ≤ a ∧ a < b) ∧
  (cb = true → ∀ lt v, ρ lt = some v → v = 0 ∨ v = 1) ∧
  (∀ lt lt', (∀ j, a ≤ j → j < b → K j = 1 → 0 ≤ V j → V j < 13 → lt (V j) = lt' (V j)) → ρ lt = ρ lt') ∧
  ∀ lt K' V' C', zd_ag K V a b K' V' C' → ∀ h en f0 S, 0 ≤ h → h + nd ≤ 40 → b ≤ en → en ≤ 200 → zd_fx (ρ lt) K' V' lt C' a b h en f0 S
theorem zd_seg_fr {cb : Bool} {K V K2 V2 : Int → Int} {a b nd : Int} {ρ : (Int → Int) → Option Int} (h : zd_seg cb K V a b nd ρ) (k : ∀ j, a ≤ j → j < b → K2 j = K j ∧ V2 j = V j) : zd_seg cb K2 V2 a b nd ρ := by
  obtain ⟨h1, h2, h3, h4⟩ := h
  refine ⟨h1, h2, fun lt lt' q => h3 lt lt' fun j j1 j2 j3 j4 j5 => ?_, fun lt K' V' C' q => h4 lt K' V' C' fun j j1 j2 => ?_⟩
  · have := q j j1 j2 ((k j j1 j2).1.trans j3) (by rw [(k j j1 j2).2]; exact j4) (by rw [(k j j1 j2).2]; exact j5)
    rwa [(k j j1 j2).2] at this
  · have := q j j1 j2
    rw [(k j j1 j2).1, (k j j1 j2).2] at this
    exact this
theorem zd_seg_nd {cb : Bool} {K V : Int → Int} {a b nd nd2 : Int} {ρ : (Int → Int) → Option Int} (h : zd_seg cb K V a b nd ρ) (k : nd ≤ nd2) : zd_seg cb K V a b nd2 ρ :=
  ⟨h.1, h.2.1, h.2.2.1, fun lt K' V' C' q hh en f0 S a1 a2 => h.2.2.2 lt K' V' C' q hh en f0 S a1 (by omega)⟩
theorem zd_ag_l {K V K' V' C' : Int → Int} {a b c : Int} (h : zd_ag K V a c K' V' C') (k : b ≤ c) : zd_ag K V a b K' V' C' := fun j j1 j2 => h j j1 (by omega)
theorem zd_ag_r {K V K' V' C' : Int → Int} {a b c : Int} (h : zd_ag K V a c K' V' C') (k : a ≤ b) : zd_ag K V b c K' V' C' := fun j j1 j2 => h j (by omega) j2
theorem zd_eff_le {α : Type} {h : Int} {S : Int → Int} {r : Option Int} {A : Nat → Option α} {B : Nat → (Int → Int) → Option α} {bad : (Int → Int) → α} {l l2 : Nat} (e : zd_eff h S r A B bad l) (k : l ≤ l2) : zd_eff h S r A B bad l2 := by
  obtain ⟨k1, S1, b1, q⟩ := e
  exact ⟨k1, S1, by omega, q⟩
theorem zg_num {K V : Int → Int} {a : Int} (ha : 0 ≤ a) (hK : K a = 0) (v1 : 0 ≤ V a) (v2 : V a < 1048576) : zd_seg false K V a (a + 1) 1 (fun _ => some (V a)) := by
  refine ⟨⟨ha, by omega⟩, fun h => (by cases h), fun _ _ _ => rfl, fun lt K' V' C' q h en f0 S h1 h2 h3 h4 => ?_⟩
  obtain ⟨q1, q2, q3⟩ := q a (Int.le_refl _) (by omega)
  rw [hK] at q1 q3
  rw [← q2] at v1 v2 ⊢
  rw [← q2] at q3
  refine ⟨zd_eff_le (zd_leaf fun n => ?_) (by omega), zd_eff_le (zd_leaf fun n => ?_) (by omega)⟩
  · have := zx_num (n := n) (f0 := f0) (V := V') (lt := lt) (S := S) (t := h - 1) ha (by omega) h4 q1 (by omega) (by omega)
    rwa [show h - 1 + 1 = h by omega] at this
  · exact zm_num ha (by omega) h4 q3 v1 v2 h1 (by omega)
theorem zg_let {K V : Int → Int} {a : Int} (ha : 0 ≤ a) (hK : K a = 1) (v1 : 0 ≤ V a) (v2 : V a < 13) : zd_seg false K V a (a + 1) 1 (fun lt => some (lt (V a))) := by
  refine ⟨⟨ha, by omega⟩, fun h => (by cases h), fun lt lt' q => ?_, fun lt K' V' C' q h en f0 S h1 h2 h3 h4 => ?_⟩
  · show some (lt (V a)) = some (lt' (V a))
    rw [q a (Int.le_refl _) (by omega) hK v1 v2]
  obtain ⟨q1, q2, q3⟩ := q a (Int.le_refl _) (by omega)
  rw [hK] at q1 q3
  rw [← q2] at v1 v2 ⊢
  rw [← q2] at q3
  refine ⟨zd_eff_le (zd_leaf fun n => ?_) (by omega), zd_eff_le (zd_leaf fun n => ?_) (by omega)⟩
  · have := zx_let (n := n) (f0 := f0) (V := V') (lt := lt) (S := S) (t := h - 1) ha (by omega) h4 q1 v1 v2 (by omega) (by omega)
    rwa [show h - 1 + 1 = h by omega] at this
  · exact zm_let ha (by omega) h4 q3 v1 v2 h1 (by omega)
def zd_o (k x y : Int) : Option Int := if y = 0 ∧ (k = 8 ∨ k = 9) then none else some (zd_bin k x y)
theorem zg_bin {cb : Bool} {K V : Int → Int} {a b c nd nd2 : Int} {ρ1 ρ2 : (Int → Int) → Option Int} (s1 : zd_seg false K V a b nd ρ1) (s2 : zd_seg false K V b c nd2 ρ2) (k1 : 5 ≤ K c) (k2 : K c ≤ 12) (hV : V c = 0) (hnd : nd2 + 1 ≤ nd) (n2 : 1 ≤ nd2) (hcb : cb = true → 10 ≤ K c) : zd_seg cb K V a (c + 1) nd (fun lt => (ρ1 lt).bind fun x => (ρ2 lt).bind fun y => zd_o (K c) x y) := by
  obtain ⟨⟨a1, a2⟩, -, i1, e1⟩ := s1
  obtain ⟨⟨b1, b2⟩, -, i2, e2⟩ := s2
  refine ⟨⟨a1, by omega⟩, fun hc lt v hv => ?_, fun lt lt' q => ?_, fun lt K' V' C' q h en f0 S h1 h2 h3 h4 => ?_⟩
  · have k10 := hcb hc
    have hv : ((ρ1 lt).bind fun x => (ρ2 lt).bind fun y => zd_o (K c) x y) = some v := hv
    cases hx : ρ1 lt with
    | none => rw [hx] at hv; exact zl_ns hv
    | some x =>
      cases hy : ρ2 lt with
      | none => rw [hx, hy] at hv; exact zl_ns hv
      | some y =>
        rw [hx, hy] at hv
        have hv : zd_o (K c) x y = some v := hv
        unfold zd_o zd_bin at hv
        rw [if_neg (by omega), if_neg (by omega), if_neg (by omega), if_neg (by omega), if_neg (by omega), if_neg (by omega)] at hv
        cases hv
        (repeat' split) <;> simp
  · show ((ρ1 lt).bind fun x => (ρ2 lt).bind fun y => zd_o (K c) x y) = ((ρ1 lt').bind fun x => (ρ2 lt').bind fun y => zd_o (K c) x y)
    rw [i1 lt lt' (fun j j1 j2 => q j j1 (by omega)), i2 lt lt' (fun j j1 j2 => q j (by omega) (by omega))]
  obtain ⟨q1, q2, q3⟩ := q c (by omega) (by omega)
  rw [hV] at q3
  have e1 := e1 lt K' V' C' (zd_ag_l q (by omega)) h en f0 S h1 h2 (by omega) h4
  have e2 := fun S1 => e2 lt K' V' C' (zd_ag_r (zd_ag_l q (by omega)) (by omega)) (h + 1) en f0 S1 (by omega) (by omega) (by omega) h4
  refine ⟨zd_eff_le (zd_two (l2 := (c - b).toNat) (C := fun n S' => zf_Law_run_l0 en f0 K' V' lt n (h + 1) c S') e1.1 (fun S1 => ?_) fun S2 x y r1 r2 u1 u2 => ⟨fun ho n => ?_, fun z ho n => ?_⟩) (by omega), zd_eff_le (zd_two (l2 := (c - b).toNat) (C := fun n S' => zf_M_comesTo_l0 en 0 C' lt n (h + 1 + 1) c S') e1.2 (fun S1 => ?_) fun S2 x y r1 r2 u1 u2 => ⟨fun ho n => ?_, fun z ho n => ?_⟩) (by omega)⟩
  · have := (e2 S1).1
    rwa [show h + 1 - 1 = h by omega] at this
  · unfold zd_o at ho
    split at ho
    · rename_i hz
      exact zx_bad (t := h + 1) (by omega) (by omega) h4 (by rw [q1]; exact hz.2) (by rw [u2]; exact hz.1) (by omega) (by omega)
    · cases ho
  · unfold zd_o at ho
    split at ho
    · cases ho
    · rename_i hz
      cases ho
      have := zx_bin (n := n) (f0 := f0) (V := V') (lt := lt) (S := S2) (t := h + 1) (a := c) (K := K') (en := en) (by omega) (by omega) h4 (by omega) (by omega) (fun h0 => by rw [q1]; rw [u2] at h0; omega) (by omega) (by omega)
      rw [show h + 1 - 1 = h by omega, u1, u2, q1] at this
      exact this
  · exact (e2 S1).2
  · unfold zd_o at ho
    split at ho
    · rename_i hz
      exact zm_bad (t := h + 1 + 1) (by omega) (by omega) h4 q3 hz.2 (by rw [show h + 1 + 1 - 1 = h + 1 by omega, u2]; exact hz.1) (by decide) (by decide) (by omega) (by omega)
    · cases ho
  · unfold zd_o at ho
    split at ho
    · cases ho
    · rename_i hz
      cases ho
      have := zm_bin (n := n) (lt := lt) (S := S2) (t := h + 1 + 1) (by omega) (by omega) h4 q3 k1 k2 (fun h0 => by rw [show h + 1 + 1 - 1 = h + 1 by omega, u2] at h0; omega) (by decide) (by decide) (by omega) (by omega)
      rw [show h + 1 + 1 - 1 = h + 1 by omega, show h + 1 + 1 - 2 = h by omega, u1, u2] at this
      exact this
theorem zg_not {K V : Int → Int} {a b nd : Int} {ρ1 : (Int → Int) → Option Int} (s1 : zd_seg true K V a b nd ρ1) (hK : K b = 2) (hV : V b = 0) (n1 : 1 ≤ nd) : zd_seg true K V a (b + 1) nd (fun lt => (ρ1 lt).map fun x => if x = 0 then 1 else 0) := by
  obtain ⟨⟨a1, a2⟩, c1, i1, e1⟩ := s1
  refine ⟨⟨a1, by omega⟩, fun hc lt v hv => ?_, fun lt lt' q => ?_, fun lt K' V' C' q h en f0 S h1 h2 h3 h4 => ?_⟩
  · have hv : ((ρ1 lt).map fun x => if x = 0 then (1 : Int) else 0) = some v := hv
    cases hx : ρ1 lt with
    | none => rw [hx] at hv; exact zl_ns hv
    | some x =>
      rw [hx] at hv
      have hv : some (if x = 0 then (1 : Int) else 0) = some v := hv
      cases hv
      split <;> simp
  · show (ρ1 lt).map _ = (ρ1 lt').map _
    rw [i1 lt lt' (fun j j1 j2 => q j j1 (by omega))]
  obtain ⟨q1, q2, q3⟩ := q b (by omega) (by omega)
  rw [hK] at q1 q3
  rw [hV] at q3
  have e1 := e1 lt K' V' C' (zd_ag_l q (by omega)) h en f0 S h1 h2 (by omega) h4
  refine ⟨zd_eff_le (zd_map e1.1 fun S1 x r1 u1 n => ?_) (by omega), zd_eff_le (zd_map e1.2 fun S1 x r1 u1 n => ?_) (by omega)⟩
  · have := zx_not (n := n) (f0 := f0) (V := V') (lt := lt) (S := S1) (t := h) (by omega) (by omega) h4 q1 (by omega) (by omega)
    rwa [u1] at this
  · have hx := c1 rfl lt x r1
    have := zm_not (n := n) (lt := lt) (S := S1) (t := h + 1) (by omega) (by omega) h4 q3 (by decide) (by decide) (by rw [show h + 1 - 1 = h by omega, u1]; exact hx) (by omega) (by omega)
    rwa [show h + 1 - 1 = h by omega, u1] at this
theorem zg_jmp {K V : Int → Int} {a b c nd : Int} {ρ1 ρ2 : (Int → Int) → Option Int} (s1 : zd_seg true K V a b nd ρ1) (s2 : zd_seg true K V (b + 1) c nd ρ2) (hK : K b = 3 ∨ K b = 4) (hV : V b = c) (n1 : 1 ≤ nd) : zd_seg true K V a c nd (fun lt => (ρ1 lt).bind fun x => if decide (x = if K b = 3 then 1 else 0) = true then some x else ρ2 lt) := by
  obtain ⟨⟨a1, a2⟩, c1, i1, e1⟩ := s1
  obtain ⟨⟨b1, b2⟩, c2, i2, e2⟩ := s2
  refine ⟨⟨a1, by omega⟩, fun hc lt v hv => ?_, fun lt lt' q => ?_, fun lt K' V' C' q h en f0 S h1 h2 h3 h4 => ?_⟩
  · have hv : ((ρ1 lt).bind fun x => if decide (x = if K b = 3 then 1 else 0) = true then some x else ρ2 lt) = some v := hv
    cases hx : ρ1 lt with
    | none => rw [hx] at hv; exact zl_ns hv
    | some x =>
      rw [hx] at hv
      have hv : (if decide (x = if K b = 3 then 1 else 0) = true then some x else ρ2 lt) = some v := hv
      by_cases hd : decide (x = if K b = 3 then 1 else 0) = true
      · rw [if_pos hd] at hv
        cases hv; exact c1 rfl lt _ hx
      · rw [if_neg hd] at hv
        exact c2 rfl lt v hv
  · show ((ρ1 lt).bind fun x => if decide (x = if K b = 3 then 1 else 0) = true then some x else ρ2 lt) = ((ρ1 lt').bind fun x => if decide (x = if K b = 3 then 1 else 0) = true then some x else ρ2 lt')
    rw [i1 lt lt' (fun j j1 j2 => q j j1 (by omega)), i2 lt lt' (fun j j1 j2 => q j (by omega) (by omega))]
  obtain ⟨q1, q2, q3⟩ := q b (by omega) (by omega)
  rw [hV] at q2 q3
  have e1 := e1 lt K' V' C' (zd_ag_l q (by omega)) h en f0 S h1 h2 (by omega) h4
  have e2 := fun S1 => e2 lt K' V' C' (zd_ag_r q (by omega)) h en f0 S1 h1 h2 h3 h4
  have h01 : ∀ x, ρ1 lt = some x → x = 0 ∨ x = 1 := fun x hx => c1 rfl lt x hx
  refine ⟨zd_eff_le (zd_jump e1.1 (B2 := fun n S1 => zf_Law_run_l0 en f0 K' V' lt n (h - 1) (b + 1) S1) (fun S1 x r1 u1 hk n => ?_) (fun S1 x r1 u1 hk n => ?_) (fun S1 => (e2 S1).1)) (by omega), zd_eff_le (zd_jump e1.2 (B2 := fun n S1 => zf_M_comesTo_l0 en 0 C' lt n h (b + 1) S1) (fun S1 x r1 u1 hk n => ?_) (fun S1 x r1 u1 hk n => ?_) (fun S1 => (e2 S1).2)) (by omega)⟩
  · have hk := of_decide_eq_true hk
    have := zx_jmp (n := n) (f0 := f0) (K := K') (V := V') (lt := lt) (S := S1) (t := h) (a := b) (en := en) (by omega) (by omega) h4 (by
      rw [q1, u1]
      rcases hK with hK | hK
      · rw [if_pos hK] at hk; omega
      · rw [if_neg (by omega)] at hk; omega) (by omega) (by omega) (by omega) (by omega)
    rwa [q2] at this
  · have hk := of_decide_eq_false hk
    have hx := h01 x r1
    exact zx_thr (t := h) (by omega) (by omega) h4 (by
      rw [q1, u1]
      rcases hK with hK | hK
      · rw [if_pos hK] at hk; omega
      · rw [if_neg (by omega)] at hk; omega) (by omega) (by omega)
  · have hk := of_decide_eq_true hk
    exact zm_jmp (t := h + 1) (by omega) (by omega) h4 q3 (by
      rw [show h + 1 - 1 = h by omega, u1]
      rcases hK with hK | hK
      · rw [if_pos hK] at hk; omega
      · rw [if_neg (by omega)] at hk; omega) (by omega) (by omega) (by omega) (by omega)
  · have hk := of_decide_eq_false hk
    have hx := h01 x r1
    have := zm_thr (n := n) (lt := lt) (S := S1) (t := h + 1) (by omega) (by omega) h4 q3 (by
      rw [show h + 1 - 1 = h by omega, u1]
      rcases hK with hK | hK
      · rw [if_pos hK] at hk; omega
      · rw [if_neg (by omega)] at hk; omega) (by omega) (by omega) (by omega) (by omega)
    rwa [show h + 1 - 1 = h by omega] at this
/-- run and comesTo over such steps -/
theorem zd_run {cb : Bool} {K V C : Int → Int} {a b nd : Int} {ρ : (Int → Int) → Option Int} (s : zd_seg cb K V a b nd ρ) (hn : nd ≤ 40) (hb : b ≤ 200) (q : zd_ag K V a b K V C) (lt : Int → Int) :
    (∀ f0 S, ∃ S', zf_Law_run a b f0 K S V lt = some ((match ρ lt with | none => ((0 : Int), f0) | some v => ((1 : Int), v)).1, (match ρ lt with | none => ((0 : Int), f0) | some v => ((1 : Int), v)).2, S')) ∧
    ∀ S, ∃ S', zf_M_comesTo a b C S lt = some ((match ρ lt with | none => (0 : Int) | some v => v), S') := by
  obtain ⟨⟨a1, a2⟩, -, -, e⟩ := s
  have e := fun f0 S => e lt K V C q 0 b f0 S (Int.le_refl _) (by omega) (Int.le_refl _) hb
  refine ⟨fun f0 S => ?_, fun S => ?_⟩
  · obtain ⟨k, S', k1, -, kn, ks⟩ := (e f0 S).1
    have hf : zi_fu = (zi_fu - k - 1) + k + 1 := by
      have : 1000 < zi_fu := by decide
      omega
    refine ⟨S', ?_⟩
    unfold zf_Law_run
    rw [hf]
    cases hr : ρ lt with
    | none =>
      have := kn hr (zi_fu - k - 1)
      rw [show (0 : Int) - 1 = -1 from rfl] at this
      rw [show zf_Law_run_l0 b f0 K V lt (zi_fu - k - 1 + k + 1) (-1) a S = _ from this]
      rfl
    | some v =>
      obtain ⟨v1, v2⟩ := ks v hr
      have := v2 (zi_fu - k - 1 + 1)
      rw [show zi_fu - k - 1 + 1 + k = zi_fu - k - 1 + k + 1 by omega, show (0 : Int) - 1 = -1 from rfl] at this
      have this : zf_Law_run_l0 b f0 K V lt (zi_fu - k - 1 + k + 1) (-1) a S = zf_Law_run_l0 b f0 K V lt (zi_fu - k - 1 + 1) 0 b S' := this
      rw [this, zx_end (Int.le_refl _)]
      show (if (0 : Int) < 0 then some (1, 0, S') else (cond (zi_ix 0 40) (some (1, S' 0, S')) none)) = _
      rw [if_neg (by decide), v1]
      rfl
  · obtain ⟨k, S', k1, -, kn, ks⟩ := (e 0 S).2
    have hf : zi_fu = (zi_fu - k - 1) + k + 1 := by
      have : 1000 < zi_fu := by decide
      omega
    refine ⟨S', ?_⟩
    unfold zf_M_comesTo
    have h0 : zi_w (220 * (zi_div a 220)) = 0 := by
      rw [zi_div_eq a1 (by omega) (by decide) (by decide), show a / 220 = 0 by omega]; rfl
    rw [hf, h0]
    cases hr : ρ lt with
    | none =>
      have := kn hr (zi_fu - k - 1)
      rw [show zf_M_comesTo_l0 b 0 C lt (zi_fu - k - 1 + k + 1) 0 a S = _ from this]
      rfl
    | some v =>
      obtain ⟨v1, v2⟩ := ks v hr
      have := v2 (zi_fu - k - 1 + 1)
      rw [show zi_fu - k - 1 + 1 + k = zi_fu - k - 1 + k + 1 by omega] at this
      have this : zf_M_comesTo_l0 b 0 C lt (zi_fu - k - 1 + k + 1) 0 a S = zf_M_comesTo_l0 b 0 C lt (zi_fu - k - 1 + 1) (0 + 1) b S' := this
      rw [this, zm_end (Int.le_refl _)]
      show some (S' 0, S') = _
      rw [v1]
