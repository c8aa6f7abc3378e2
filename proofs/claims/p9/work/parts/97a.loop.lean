/-! The law over names: its rules, its loop. -/
abbrev lwm : zM := (x, code, 4, ret, 1, 0)
abbrev lwK : zK := (z_KF12, z_KC12, z_KL12, z_KT12, [], [], [], none)
abbrev zw_lc (i : Int) : List zNV := [.inr 900, .inr 0, .inr 1, .inl i]
def zw_R (Lx : Nat) (xs : Nat → Int32) (good : Nat → List zNV → List zNV → List zNV → List (Int → Int) → Prop) : Prop :=
  (∀ pc L S F G, decode code pc = .ok (.arraylength, 1) → good (pc + 1) L (.inl (Lx : Int) :: S) F G → good pc L (.inr 900 :: S) F G) ∧
  (∀ pc L S F G (a : Int), decode code pc = .ok (.iaload, 1) → 0 ≤ a → a < (Lx : Int) → good (pc + 1) L (.inl (xs a.toNat).toInt :: S) F G → good pc L (.inl a :: .inr 900 :: S) F G) ∧
  (∀ pc L F G, decode code pc = .ok (.ireturn, 1) → good pc L [.inl 1] F G)
abbrev zw_B (good : Nat → List zNV → List zNV → List zNV → List (Int → Int) → Prop) : Prop := zv_B z_cl z_FT z_KX z_TB z_MT zyE lwm lwK (2048, 84000) good
/-- one call of the law, from behind its test -/
def zw_body (Lx : Nat) (xs : Nat → Int32) (Inv : (Nat → Int) → (Nat → Int → Int) → Prop) : Prop :=
  ∀ good, zw_B good → zw_R Lx xs good → ∀ (i : Int) (f : Nat → Int) (g : Nat → Int → Int), Inv f g → 0 ≤ i → i + 6 ≤ Lx →
    (∀ f' g', Inv f' g' → good 18 (zw_lc (i + 6)) [] (zE_F f') (zE_G g')) →
    (∀ f' g', Inv (fun j => f' (zv_rc zE_p1 j)) (fun j => g' (zv_rc zE_q1 j)) → good 18 (zw_lc (i + 6)) [] (zE_Fr 21 14 1000 22 24 1000 1000 1000 1000 1000 1000 f') (zE_G g')) →
    (∀ f' g', Inv (fun j => f' (zv_rc zE_p2 j)) (fun j => g' (zv_rc zE_q2 j)) → good 18 (zw_lc (i + 6)) [] (zE_Fr 14 21 1000 24 22 1000 1000 1000 1000 1000 1000 f') (zE_G g')) →
    good 27 (zw_lc i) [] (zE_F f) (zE_G g)
section ZWLOOP
variable {p : Program} {l : Launch} {e : Env} {s : State} {m : MethodId} {args : Array Value} {below : List Frame} {meth : Method} {c : Code} {Q : State → Prop}
variable {OB : Nat → Nat} {D : va_G} {DA : Nat → ClassId} {b Lx : Nat} {xs : Nat → Int32} {Inv : (Nat → Int) → (Nat → Int → Int) → Prop}
theorem zw_S {sz : Nat} {H0 H H2 : Heap} {locs locs2 : List Loc} (hz : sz ≤ H0.size) (h : va_S (fun q => sz ≤ q) H0 H locs) (h2 : va_S (fun q => sz ≤ q) H H2 locs2) : va_S (fun q => sz ≤ q) H0 H2 locs2 :=
  ⟨Nat.le_trans h.1 h2.1, fun q h3 h4 => (h2.2.1 q (Nat.lt_of_lt_of_le h3 h.1) h4).trans (h.2.1 q h3 h4), h2.2.2⟩
theorem zw_ren {A : Nat → Nat} {ρ φ ψ : List Nat} {sz : Nat} (hk : zy_rk zyE ρ φ ψ = true) (hinj : ∀ a b, a < 129 → b < 129 → A a = A b → a = b) (hge : ∀ a, a < 129 → sz ≤ A a) (hOB : ∀ k, A (900 + k) = OB k) (hlen : ρ.length = 129) :
    (∀ a b, a < 129 → b < 129 → A (zv_rc ρ a) = A (zv_rc ρ b) → a = b) ∧ (∀ a, a < 129 → sz ≤ A (zv_rc ρ a)) ∧ ∀ k, A (zv_rc ρ (900 + k)) = OB k := by
  obtain ⟨⟨-, -, a3, a4⟩, -⟩ := zy_rk1 hk
  refine ⟨fun a b ha hb h => a4 a b ha hb (hinj _ _ (a3 a ha) (a3 b hb) h), fun a ha => hge _ (a3 a ha), fun k => ?_⟩
  have : zv_rc ρ (900 + k) = 900 + k := by
    unfold zv_rc
    rw [zv_l_get, List.getElem?_eq_none (by omega)]
  rw [this]
  exact hOB k
theorem zw_lv {ls : Array Slot} {A A2 : Nat → Nat} {i : Int} (h : zv_lv 4 ls A (zw_lc i)) (e0 : A2 0 = A 0) (e1 : A2 1 = A 1) (e9 : A2 900 = A 900) : zv_lv 4 ls A2 (zw_lc i) := by
  obtain ⟨lv, h1, h2, h3⟩ := h
  refine ⟨lv, h1, h2, fun j v hj hv => ?_⟩
  obtain ⟨w, w1, w2⟩ := h3 j v hj hv
  refine ⟨w, ?_, w2⟩
  have nm : ∀ c, c < 5000 → A2 c = A c → zv_w A c w → zv_w A2 c w := fun c hc e h => by
    rw [zv_w_r h hc, ← e]
    exact zv_w_mk hc
  match j, hj with
  | 0, hj => cases hj; exact nm 900 (by decide) e9 w1
  | 1, hj => cases hj; exact nm 0 (by decide) e0 w1
  | 2, hj => cases hj; exact nm 1 (by decide) e1 w1
  | 3, hj => cases hj; exact w1
  | n + 4, hj => cases hj
theorem zw_one (hx : p.tables.exec = Jvm.exec) (hb : c.code = code) (hml : c.maxLocals = 4) (hX : va_X b Lx xs s s.heap) (hbl : b < s.heap.size) (hL : Lx ≤ 3072) (hOB0 : OB 0 = b) (hD : z_Dy s m args z_TB "StarTalesLaw" D z_cl DA (z_tys DA)) (hKX : z_KX OB s.heap.size s s.heap)
    (hend : ∀ pc H ls, decode code pc = .ok (.ireturn, 1) → W p l e room_1 s m args below meth c H [] 600000 7302250 Q (F0 m pc ls [.int 1])) (hbody : zw_body Lx xs Inv)
    {i : Int} (i0 : 0 ≤ i) (i1 : i ≤ 4000) (hnext : i + 6 ≤ Lx → ∀ (f : Nat → Int) (g : Nat → Int → Int) (A : Nat → Nat) (H : Heap) (locs : List Loc) (ls : Array Slot), Inv f g → (∀ a b, a < 129 → b < 129 → A a = A b → a = b) → (∀ a, a < 129 → s.heap.size ≤ A a) → (∀ k, A (900 + k) = OB k) →
      zv_rep D DA z_cl zyE A (zE_F f) (zE_G g) H → va_S (fun q => s.heap.size ≤ q) s.heap H locs → zv_lv 4 ls A (zw_lc (i + 6)) → W p l e room_1 s m args below meth c H locs 129 43489 Q (F0 m 18 ls [])) :
    ∀ (f : Nat → Int) (g : Nat → Int → Int) (A : Nat → Nat) (H : Heap) (locs : List Loc) (ls : Array Slot), Inv f g → (∀ a b, a < 129 → b < 129 → A a = A b → a = b) → (∀ a, a < 129 → s.heap.size ≤ A a) → (∀ k, A (900 + k) = OB k) →
      zv_rep D DA z_cl zyE A (zE_F f) (zE_G g) H → va_S (fun q => s.heap.size ≤ q) s.heap H locs → zv_lv 4 ls A (zw_lc i) → W p l e room_1 s m args below meth c H locs 129 43489 Q (F0 m 18 ls []) := by
  intro f g A H locs ls hI hinj hge hOB hrep hS hlv
  have hB : zw_B (fun pc L S F G => ∀ H2 locs2 ls2 stk2, zv_rep D DA z_cl zyE A F G H2 → zv_frm D z_cl zyE A H H2 → va_S (fun q => s.heap.size ≤ q) H H2 locs2 → zv_lv 4 ls2 A L → zv_st A S stk2 → W p l e room_1 s m args below meth c H2 locs2 129 43489 Q (F0 m pc ls2 stk2)) :=
    ⟨p, l, e, room_1, s, m, args, below, meth, c, Q, OB, D, DA, s.heap.size, A, H, z_TB, 129, 43489, ⟨hx, hb, hml, hD, z_ks12 z_TB (fun _ h => h) _ _ _ _ (fun j r h _ => by cases h)⟩, ⟨hS.1, zs_KX_p, zs_KX_p.2.1 s s.heap H hKX hS.1 (fun q h1 h2 => hS.2.1 q h1 h2), by decide, by decide, by decide, by decide⟩, ⟨zywE, hinj, hge, hOB⟩, fun _ _ _ _ _ => Iff.rfl⟩
  have hA9 : A 900 = b := (hOB 0).trans hOB0
  have hbA : ¬ s.heap.size ≤ b := by omega
  have hR : zw_R Lx xs (fun pc L S F G => ∀ H2 locs2 ls2 stk2, zv_rep D DA z_cl zyE A F G H2 → zv_frm D z_cl zyE A H H2 → va_S (fun q => s.heap.size ≤ q) H H2 locs2 → zv_lv 4 ls2 A L → zv_st A S stk2 → W p l e room_1 s m args below meth c H2 locs2 129 43489 Q (F0 m pc ls2 stk2)) := by
    refine ⟨fun pc L S F G hd k => ?_, fun pc L S F G a hd a0 a1 k => ?_, fun pc L F G hd => ?_⟩
    · intro H2 locs2 ls2 stk2 h1 h2 h3 h4 ⟨w, k', e1, e2, e3⟩
      have e2 : zv_w A 900 w := e2
      have e2 := zv_w_r e2 (by decide)
      rw [hA9] at e2
      subst e2; subst e1
      refine va_slen hx hb hX hbl hbA (zw_S (Nat.le_refl _) hS h3) hd (k H2 locs2 ls2 _ h1 h2 h3 h4 ⟨_, k', rfl, ⟨_, rfl, ?_⟩, e3⟩)
      exact Int32.toInt_ofNat_of_lt (by omega)
    · intro H2 locs2 ls2 stk2 h1 h2 h3 h4 ⟨w, k', e1, ⟨u, e2, e3⟩, w2, k2, e4, e5, e6⟩
      have e5 : zv_w A 900 w2 := e5
      have e5 := zv_w_r e5 (by decide)
      rw [hA9] at e5
      subst e5; subst e4; subst e2; subst e1
      have hcl : u.toNatClampNeg = a.toNat := by show u.toInt.toNat = _; omega
      have hin : vp_in u Lx := by
        intro hh
        rcases hh with hh | hh
        · have := Int32.lt_iff_toInt_lt.mp hh
          have e0 : (0 : Int32).toInt = 0 := rfl
          omega
        · rw [hcl] at hh
          omega
      refine va_sld hx hb hX hbl hbA (zw_S (Nat.le_refl _) hS h3) hin hd ?_
      rw [hcl]
      exact k H2 locs2 ls2 _ h1 h2 h3 h4 ⟨_, k2, rfl, ⟨_, rfl, rfl⟩, e6⟩
    · intro H2 locs2 ls2 stk2 h1 h2 h3 h4 ⟨w, k', e1, ⟨u, e2, e3⟩, e4⟩
      have e4 : k' = [] := e4
      have eu : u = 1 := Int32.toInt.inj (by rw [e3]; rfl)
      subst eu; subst e2; subst e4; subst e1
      have := W.forget (locs := []) (L := locs2) (fun q hq => h3.2.2 q hq) (hend pc H2 ls2 hd)
      exact W.widen (by decide) (by decide) this
  have main := hbody _ hB hR i f g hI i0
  revert hB hR
  intro hB hR
  have go : (fun pc L S F G => ∀ H2 locs2 ls2 stk2, zv_rep D DA z_cl zyE A F G H2 → zv_frm D z_cl zyE A H H2 → va_S (fun q => s.heap.size ≤ q) H H2 locs2 → zv_lv 4 ls2 A L → zv_st A S stk2 → W p l e room_1 s m args below meth c H2 locs2 129 43489 Q (F0 m pc ls2 stk2)) 18 (zw_lc i) [] (zE_F f) (zE_G g) := by
    refine zv_ild (ins := .iload_n 3) (len := 1) hB (by decide +kernel) rfl rfl ?_
    refine zv_ald (ins := .aload_n 0) (len := 1) hB (by decide +kernel) rfl rfl rfl ?_
    refine hR.1 _ _ _ _ _ (by decide +kernel) ?_
    refine zv_con (ins := .bipush 6) (len := 2) hB (by decide +kernel) rfl ?_
    refine zv_isub hB (by decide +kernel) (by omega) (by omega) ?_
    refine zv_cgt hB (off := 1575) (t := 1599) (by decide +kernel) rfl (fun hgt => ?_) fun hle => ?_
    · refine zv_con (ins := .iconst 1) (len := 1) hB (by decide +kernel) rfl ?_
      exact hR.2.2 _ _ _ _ (by decide +kernel)
    · refine main (by omega) (fun f' g' hI2 => ?_) (fun f' g' hI2 => ?_) fun f' g' hI2 => ?_
      · intro H2 locs2 ls2 stk2 h1 h2 h3 h4 h5
        have h5 : stk2 = [] := h5
        subst h5
        exact hnext (by omega) f' g' A H2 locs2 ls2 hI2 hinj hge hOB h1 (zw_S (Nat.le_refl _) hS h3) h4
      · intro H2 locs2 ls2 stk2 h1 h2 h3 h4 h5
        have h5 : stk2 = [] := h5
        subst h5
        obtain ⟨q1, q2, q3⟩ := zw_ren zE_rk1 hinj hge hOB rfl
        exact hnext (by omega) _ _ (fun c => A (zv_rc zE_s1 c)) H2 locs2 ls2 hI2 q1 q2 q3 (zE_sw1 h1) (zw_S (Nat.le_refl _) hS h3) (zw_lv h4 rfl rfl rfl)
      · intro H2 locs2 ls2 stk2 h1 h2 h3 h4 h5
        have h5 : stk2 = [] := h5
        subst h5
        obtain ⟨q1, q2, q3⟩ := zw_ren zE_rk2 hinj hge hOB rfl
        exact hnext (by omega) _ _ (fun c => A (zv_rc zE_s2 c)) H2 locs2 ls2 hI2 q1 q2 q3 (zE_sw2 h1) (zw_S (Nat.le_refl _) hS h3) (zw_lv h4 rfl rfl rfl)
  exact go H locs ls [] hrep zv_frm_rf ⟨Nat.le_refl _, fun _ _ _ => rfl, hS.2.2⟩ hlv rfl
theorem zw_loop (hx : p.tables.exec = Jvm.exec) (hb : c.code = code) (hml : c.maxLocals = 4) (hX : va_X b Lx xs s s.heap) (hbl : b < s.heap.size) (hL : Lx ≤ 3072) (hOB0 : OB 0 = b) (hD : z_Dy s m args z_TB "StarTalesLaw" D z_cl DA (z_tys DA)) (hKX : z_KX OB s.heap.size s s.heap)
    (hend : ∀ pc H ls, decode code pc = .ok (.ireturn, 1) → W p l e room_1 s m args below meth c H [] 600000 7302250 Q (F0 m pc ls [.int 1])) (hbody : zw_body Lx xs Inv) :
    ∀ (k : Nat) (i : Int), (Lx : Int) + 6 - i ≤ k → 0 ≤ i → i ≤ 4000 → ∀ (f : Nat → Int) (g : Nat → Int → Int) (A : Nat → Nat) (H : Heap) (locs : List Loc) (ls : Array Slot), Inv f g → (∀ a b, a < 129 → b < 129 → A a = A b → a = b) → (∀ a, a < 129 → s.heap.size ≤ A a) → (∀ k, A (900 + k) = OB k) →
      zv_rep D DA z_cl zyE A (zE_F f) (zE_G g) H → va_S (fun q => s.heap.size ≤ q) s.heap H locs → zv_lv 4 ls A (zw_lc i) → W p l e room_1 s m args below meth c H locs 129 43489 Q (F0 m 18 ls []) := by
  intro k
  induction k with
  | zero => exact fun i hk i0 i1 => zw_one hx hb hml hX hbl hL hOB0 hD hKX hend hbody i0 i1 fun h => by omega
  | succ k ih => exact fun i hk i0 i1 => zw_one hx hb hml hX hbl hL hOB0 hD hKX hend hbody i0 i1 fun h => ih (i + 6) (by omega) (by omega) (by omega)
end ZWLOOP
