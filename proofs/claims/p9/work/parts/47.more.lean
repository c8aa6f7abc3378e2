/-! System.arraycopy over names, from place 0 to place 0. -/
def zv_cpy (g0 g : Int → Int) (m : Int) : Int → Int := fun q => if q < m then g0 q else g q
section ZVACP
variable {cl : List vw_C} {FT : Nat → Nat → FieldType} {KXf : (Nat → Nat) → Nat → State → Heap → Prop} {TBL : List Cond} {MT : List zM} {y : zNL} {mm : zM} {K : zK} {rm : Nat × Nat} {good : Nat → List zNV → List zNV → List zNV → List (Int → Int) → Prop}
variable {pc : Nat} {L : List zNV} {F : List zNV} {G : List (Int → Int)}
theorem zv_acp (hB : zv_B cl FT KXf TBL MT y mm K rm good) {i x a c n n0 j j0 : Nat} {m : Int} {g g0 : Int → Int} (hd : decode mm.2.1 pc = .ok (.invokestatic i, 3)) (hl : (i, 8, x) ∈ k_LK K) (ha : zv_ar y c = some (0, n, j)) (ha0 : zv_ar y a = some (0, n0, j0)) (hg1 : zv_l G j = some g) (hg0 : zv_l G j0 = some g0) (hm0 : 0 ≤ m) (hm1 : m ≤ n) (hm2 : m ≤ n0) (hrm : 1 ≤ rm.1 ∧ 60 ≤ rm.2)
    (k : good (pc + 3) L [] F (zv_s G j (zv_cpy g0 g m))) : good pc L [.inl m, .inl 0, .inr c, .inl 0, .inr a] F G := by
  obtain ⟨p, l, e, R, s, mi, args, below, meth, cc, Q, OB, D, DA, sz, A, H0, Ts, cells, slots, ⟨hx, hb, hml, hD, hKS⟩, ⟨hsz, hXp, hX, hR1, hR2, -⟩, ⟨hwf, hinj, hge, hOB⟩, hg⟩ := hB
  refine (hg _ _ _ _ _).mpr fun H locs ls stk h1 h2 h3 h4 h5 => ?_
  obtain ⟨w1, s1, rfl, ⟨zn, rfl, en⟩, w2, s2, rfl, ⟨zd, rfl, ed⟩, w3, s3, rfl, hw3, w4, s4, rfl, ⟨zs, rfl, es⟩, w5, s5, rfl, hw5, hs5⟩ := h5
  have hw3 : w3 = .ref (A c) := zv_w_r hw3 (zv_ar_lt hwf ha)
  have hw5 : w5 = .ref (A a) := zv_w_r hw5 (zv_ar_lt hwf ha0)
  have hs5 : s5 = [] := hs5
  subst hw3; subst hw5; subst hs5
  have hmA := zv_ar_ok ha
  have hmA0 := zv_ar_ok ha0
  obtain ⟨f, g2, x1, x2, x3⟩ := h1.2.2.2 _ hmA
  obtain ⟨f0, g3, y1, y2, y3⟩ := h1.2.2.2 _ hmA0
  have x1 : H[A c]? = some (arrV (DA 0) n f) := x1
  have y1 : H[A a]? = some (arrV (DA 0) n0 f0) := y1
  have x2 : zv_l G j = some g2 := x2
  have y2 : zv_l G j0 = some g3 := y2
  rw [hg1] at x2
  rw [hg0] at y2
  cases x2
  cases y2
  have x3 : ∀ q : Nat, q < n → ∃ x : Int32, f q = .int x ∧ x.toInt = g q := x3
  have y3 : ∀ q : Nat, q < n0 → ∃ x : Int32, f0 q = .int x ∧ x.toInt = g0 q := y3
  obtain ⟨a1, a2, a3, a4⟩ := zv_wfA hwf hmA
  have a1 : c < n_N y := a1
  have t1 : H[A c]? = some (arrV (DA 0) n (fun q => .int (z_int (f q)))) := by
    rw [x1]
    exact congrArg some (z_arrC (fun q hq => by obtain ⟨z, z1, -⟩ := x3 q hq; show f q = .int (z_int (f q)); rw [z1]; rfl))
  have t0 : H[A a]? = some (arrV (DA 0) n0 (fun q => .int (z_int (f0 q)))) := by
    rw [y1]
    exact congrArg some (z_arrC (fun q hq => by obtain ⟨z, z1, -⟩ := y3 q hq; show f0 q = .int (z_int (f0 q)); rw [z1]; rfl))
  obtain ⟨ww1, ww2, ww3, ww4⟩ := (hKS.2.2.1 _ hl).2.1 rfl
  have hls : mm.2.2.1 = ls.size := by obtain ⟨lv, z1, _⟩ := h4; exact z1.1.symm
  refine z_cprow hx hb (by rw [hml, hls]) hD ww1 ww2 ww3 ww4 t0 t1 es ed (by omega) (by omega) (by omega) (by omega) (by show 0 + 60 ≤ _; omega) hd fun H1 LL hLL e1 e2 e3 => ?_
  have hne : ∀ b, b < n_N y → b ≠ c → A b ≠ A c := fun b hb1 hb2 hb3 => hb2 (hinj _ _ hb1 a1 hb3)
  refine (hg _ _ _ _ _).mp k H1 _ ls [] ⟨fun q hq => ?_, fun q hq => ?_, fun q hq => ?_, fun q hq => ?_⟩ (zv_frm_tr h2 ⟨e2, fun b hb1 => e3 b (fun e => hb1 c a1 e.symm), fun q hq r' k2 w hr hk2 hk3 hk4 => ?_⟩) (z_S_app h3 e2 e3 (hge _ a1) hLL) h4 rfl
  · obtain ⟨w1, w2, w3⟩ := zv_wfO hwf hq
    obtain ⟨r', V', y1, y2⟩ := h1.1 q hq
    exact ⟨r', V', y1, y2.kept (e3 _ (hne _ w1 (w2 _ hmA)))⟩
  · obtain ⟨r', x', f', y1, y2, y3, y4⟩ := h1.2.1 q hq
    exact ⟨r', x', f', y1, y2, z_sl_kept y3 (e3 _ (hne _ (zv_wfIn hwf hq).1 (fun e => a3 _ hq e.symm))), y4⟩
  · obtain ⟨r', y1, y2, y3⟩ := h1.2.2.1 q hq
    exact ⟨r', y1, y2, z_sl_kept y3 (e3 _ (hne _ (zv_wfR hwf hq).1 (fun e => a4 _ hq e.symm)))⟩
  · obtain ⟨f2, g2, u1, u2, u3⟩ := h1.2.2.2 q hq
    obtain ⟨w1, w2, w3, w4⟩ := zv_wfA hwf hq
    by_cases e : q.1 = c
    · obtain ⟨v1, v2⟩ := a2 q hq
      obtain ⟨v3, v4⟩ := v2 e.symm
      have v5 : j = q.2.2.2 := v1.mpr e.symm
      have v3 : 0 = q.2.1 := v3
      have v4 : n = q.2.2.1 := v4
      refine ⟨_, _, by rw [e, ← v3, ← v4]; exact e1, by rw [← v5]; exact zv_ls_eq hg1, fun i hi => ?_⟩
      rw [← v4] at hi
      rw [← v3]
      obtain ⟨z, z1, z2⟩ := x3 i hi
      by_cases ei : (i : Int) < m
      · obtain ⟨z', z1', z2'⟩ := y3 i (by omega)
        refine ⟨z', ?_, ?_⟩
        · show Value.int (if 0 ≤ i ∧ i < 0 + zn.toInt.toNat then z_int (f0 (0 + (i - 0))) else z_int (f i)) = .int z'
          rw [if_pos (by omega), Nat.zero_add, Nat.sub_zero, z1']
          rfl
        · show z'.toInt = if (i : Int) < m then g0 i else g i
          rw [if_pos ei]; exact z2'
      · refine ⟨z, ?_, ?_⟩
        · show Value.int (if 0 ≤ i ∧ i < 0 + zn.toInt.toNat then z_int (f0 (0 + (i - 0))) else z_int (f i)) = .int z
          rw [if_neg (by omega), z1]
          rfl
        · show z.toInt = if (i : Int) < m then g0 i else g i
          rw [if_neg ei]; exact z2
    · refine ⟨f2, g2, by rw [e3 _ (hne _ w1 e)]; exact u1, ?_, u3⟩
      rw [zv_ls_ne (fun h7 => e ((w2 _ hmA).1.mp h7.symm))]
      exact u2
  · exact z_sl_kept hk4 (e3 _ (hne _ (zv_wfO hwf hq).1 ((zv_wfO hwf hq).2.1 _ hmA)))
end ZVACP

def zi_let {α : Type} (e : Int) (k : Int → Option α) : Option α := k e
theorem zi_letp {α : Type} {e : Int} {k : Int → Option α} {o : α} (h : zi_let e k = some o) : ∃ v, e = v ∧ k v = some o := ⟨e, rfl, h⟩
def zi_fu : Nat := 1000000000000000000
theorem zi_rk {α β : Type} {P : α → Prop} {w o : β} {q : α ⊕ β} (h : Sum.inr w = q) (hK : Sum.elim P (fun w => w = o) q) : w = o := by
  subst h
  exact hK
theorem zi_sl {α β γ : Type} {f : α → γ} {g : β → γ} {e : α} {o : γ} (h : Sum.elim f g (Sum.inl e) = o) : f e = o := h
/-- the same, or nothing known -/
def zv_wl : List zNV → List zNV → Prop
  | [], [] => True
  | v :: L', w :: L => (zv_is v → v = w) ∧ zv_wl L' L
  | _, _ => False
theorem zv_wl_at : ∀ {L' L : List zNV} {i : Nat} {v : zNV}, zv_wl L' L → zv_l L' i = some v → zv_is v → zv_l L i = some v
  | [], _, _, _, _, h, _ => by cases h
  | _ :: _, [], _, _, h, _, _ => absurd h (fun h => h)
  | u :: L', w :: L, 0, v, h, h1, h2 => by
    have e : u = v := Option.some.inj h1
    subst e
    show some w = some u
    rw [h.1 h2]
  | u :: L', w :: L, i + 1, v, h, h1, h2 => zv_wl_at (L' := L') (L := L) (i := i) h.2 h1 h2
theorem zv_wl_to : ∀ {L' L : List zNV} {i : Nat} {w : zNV}, zv_wl L' L → zv_l L i = some w → ∃ v, zv_l L' i = some v ∧ (zv_is v → v = w)
  | _, [], _, _, _, h => by cases h
  | [], _ :: _, _, _, h, _ => absurd h (fun h => h)
  | u :: L', x :: L, 0, w, h, h1 => by
    have e : x = w := Option.some.inj h1
    subst e
    exact ⟨u, rfl, h.1⟩
  | u :: L', x :: L, i + 1, w, h, h1 => zv_wl_to (L' := L') (L := L) (i := i) h.2 h1
section ZVWK
variable {cl : List vw_C} {FT : Nat → Nat → FieldType} {KXf : (Nat → Nat) → Nat → State → Heap → Prop} {TBL : List Cond} {MT : List zM} {y : zNL} {mm : zM} {K : zK} {rm : Nat × Nat} {good : Nat → List zNV → List zNV → List zNV → List (Int → Int) → Prop}
variable {pc : Nat} {L L' S : List zNV} {F F' : List zNV} {G : List (Int → Int)}
theorem zv_wk (hB : zv_B cl FT KXf TBL MT y mm K rm good) (hw : zv_wl L' L) (hf : zv_wl F' F) (k : good pc L' S F' G) : good pc L S F G := by
  obtain ⟨p, l, e, R, s, m, args, below, meth, c, Q, OB, D, DA, sz, A, H0, Ts, cells, slots, ⟨hx, hb, hml, hD, hKS⟩, -, -, hg⟩ := hB
  refine (hg _ _ _ _ _).mpr fun H locs ls stk h1 h2 h3 h4 h5 => ?_
  obtain ⟨lv, a1, a2, a3⟩ := h4
  refine (hg _ _ _ _ _).mp k H locs ls stk ⟨h1.1, fun q hq => ?_, h1.2.2.1, h1.2.2.2⟩ h2 h3 ⟨lv, a1, a2, fun i v hi hv => a3 i v (zv_wl_at hw hi hv) hv⟩ h5
  obtain ⟨r, w, f, c1, c2, c3, c4, c5⟩ := h1.2.1 q hq
  obtain ⟨v, v1, v2⟩ := zv_wl_to hf c4
  exact ⟨r, w, v, c1, c2, c3, v1, fun his => by have e := v2 his; subst e; exact c5 his⟩
end ZVWK
