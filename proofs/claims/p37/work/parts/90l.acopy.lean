/-! System.arraycopy over names, from place 0 to place 0. -/
section ZNACP
variable {cl : List vw_C} {FT : Nat → Nat → FieldType} {KXf : (Nat → Nat) → Nat → State → Heap → Prop} {TBL : List Cond} {MT : List zM} {y : zNL} {mm : zM} {K : zK} {rm : Nat × Nat} {good : Nat → List zNV → List zNV → List Int → List (Int → Int) → Prop}
variable {pc : Nat} {L : List zNV} {F : List Int} {G : List (Int → Int)}
theorem zn_acp (hB : zn_B cl FT KXf TBL MT y mm K rm good) {i x a c n n0 j j0 : Nat} {m : Int} {g g0 : Int → Int} (hd : decode mm.2.1 pc = .ok (.invokestatic i, 3)) (hl : (i, 8, x) ∈ k_LK K) (ha : zn_ar y c = some (0, n, j)) (ha0 : zn_ar y a = some (0, n0, j0)) (hg1 : zn_l G j = some g) (hg0 : zn_l G j0 = some g0) (hm0 : 0 ≤ m) (hm1 : m ≤ n) (hm2 : m ≤ n0) (hrm : 1 ≤ rm.1 ∧ 60 ≤ rm.2)
    (k : good (pc + 3) L [] F (zn_s G j (fun q => if q < m then g0 q else g q))) : good pc L [.inl m, .inl 0, .inr c, .inl 0, .inr a] F G := by
  obtain ⟨p, l, e, R, s, mi, args, below, meth, cc, Q, OB, D, DA, sz, A, H0, Ts, cells, slots, ⟨hx, hb, hml, hD, hKS⟩, ⟨hsz, hXp, hX, hR1, hR2, -⟩, ⟨hwf, hinj, hge, hOB⟩, hg⟩ := hB
  refine (hg _ _ _ _ _).mpr fun H locs ls stk h1 h2 h3 h4 h5 => ?_
  obtain ⟨w1, s1, rfl, ⟨zn, rfl, en⟩, w2, s2, rfl, ⟨zd, rfl, ed⟩, w3, s3, rfl, hw3, w4, s4, rfl, ⟨zs, rfl, es⟩, w5, s5, rfl, hw5, hs5⟩ := h5
  have hw3 : w3 = .ref (A c) := hw3
  have hw5 : w5 = .ref (A a) := hw5
  have hs5 : s5 = [] := hs5
  subst hw3; subst hw5; subst hs5
  have hmA := zn_ar_ok ha
  have hmA0 := zn_ar_ok ha0
  obtain ⟨f, g2, x1, x2, x3⟩ := h1.2.2.2 _ hmA
  obtain ⟨f0, g3, y1, y2, y3⟩ := h1.2.2.2 _ hmA0
  have x1 : H[A c]? = some (arrV (DA 0) n f) := x1
  have y1 : H[A a]? = some (arrV (DA 0) n0 f0) := y1
  have x2 : zn_l G j = some g2 := x2
  have y2 : zn_l G j0 = some g3 := y2
  rw [hg1] at x2
  rw [hg0] at y2
  cases x2
  cases y2
  have x3 : ∀ q : Nat, q < n → ∃ x : Int32, f q = .int x ∧ x.toInt = g q := x3
  have y3 : ∀ q : Nat, q < n0 → ∃ x : Int32, f0 q = .int x ∧ x.toInt = g0 q := y3
  obtain ⟨a1, a2, a3, a4⟩ := zn_wfA hwf hmA
  have a1 : c < n_N y := a1
  have t1 : H[A c]? = some (arrV (DA 0) n (fun q => .int (z_int (f q)))) := by
    rw [x1]
    exact congrArg some (z_arrC (fun q hq => by obtain ⟨z, z1, -⟩ := x3 q hq; show f q = .int (z_int (f q)); rw [z1]; rfl))
  have t0 : H[A a]? = some (arrV (DA 0) n0 (fun q => .int (z_int (f0 q)))) := by
    rw [y1]
    exact congrArg some (z_arrC (fun q hq => by obtain ⟨z, z1, -⟩ := y3 q hq; show f0 q = .int (z_int (f0 q)); rw [z1]; rfl))
  obtain ⟨ww1, ww2, ww3, ww4⟩ := (hKS.2.2.1 _ hl).2.1 rfl
  have hls : mm.2.2.1 = ls.size := by obtain ⟨lv, z1, _⟩ := h4; exact z1.1.symm
  refine z_cprow hx hb (by rw [hml, hls]) hD ww1 ww2 ww3 ww4 t0 t1 es ed (by omega) (by omega) (by omega) (by omega) (by show 0 + 60 ≤ _; omega) hd fun H1 LL hLL e1 e2 e3 => ?_
  have hne : ∀ b, b < n_N y → b ≠ c → A b ≠ A c := fun b hb1 hb2 hb3 => hb2 (hinj _ _ hb1 a1 hb3)
  refine (hg _ _ _ _ _).mp k H1 _ ls [] ⟨fun q hq => ?_, fun q hq => ?_, fun q hq => ?_, fun q hq => ?_⟩ (zn_frm_tr h2 ⟨e2, fun b hb1 => e3 b (fun e => hb1 c a1 e.symm), fun q hq r' k2 w hr hk2 hk3 hk4 => ?_⟩) (z_S_app h3 e2 e3 (hge _ a1) hLL) h4 rfl
  · obtain ⟨w1, w2, w3⟩ := zn_wfO hwf hq
    obtain ⟨r', V', y1, y2⟩ := h1.1 q hq
    exact ⟨r', V', y1, y2.kept (e3 _ (hne _ w1 (w2 _ hmA)))⟩
  · obtain ⟨r', x', y1, y2, y3, y4⟩ := h1.2.1 q hq
    exact ⟨r', x', y1, y2, z_sl_kept y3 (e3 _ (hne _ (zn_wfIn hwf hq).1 (fun e => a3 _ hq e.symm))), y4⟩
  · obtain ⟨r', y1, y2, y3⟩ := h1.2.2.1 q hq
    exact ⟨r', y1, y2, z_sl_kept y3 (e3 _ (hne _ (zn_wfR hwf hq).1 (fun e => a4 _ hq e.symm)))⟩
  · obtain ⟨f2, g2, u1, u2, u3⟩ := h1.2.2.2 q hq
    obtain ⟨w1, w2, w3, w4⟩ := zn_wfA hwf hq
    by_cases e : q.1 = c
    · obtain ⟨v1, v2⟩ := a2 q hq
      obtain ⟨v3, v4⟩ := v2 e.symm
      have v5 : j = q.2.2.2 := v1.mpr e.symm
      have v3 : 0 = q.2.1 := v3
      have v4 : n = q.2.2.1 := v4
      refine ⟨_, _, by rw [e, ← v3, ← v4]; exact e1, by rw [← v5]; exact zn_ls_eq hg1, fun i hi => ?_⟩
      rw [← v4] at hi
      obtain ⟨z, z1, z2⟩ := x3 i hi
      by_cases ei : (i : Int) < m
      · obtain ⟨z', z1', z2'⟩ := y3 i (by omega)
        refine ⟨z', ?_, ?_⟩
        · show Value.int (if 0 ≤ i ∧ i < 0 + zn.toInt.toNat then z_int (f0 (0 + (i - 0))) else z_int (f i)) = .int z'
          rw [if_pos (by omega), Nat.zero_add, Nat.sub_zero, z1']
          rfl
        · show z'.toInt = if (i : Int) < m then g0 i else g i
          rw [if_pos ei]; exact z2'
      · refine ⟨z, ?_, ?_⟩
        · show Value.int (if 0 ≤ i ∧ i < 0 + zn.toInt.toNat then z_int (f0 (0 + (i - 0))) else z_int (f i)) = .int z
          rw [if_neg (by omega), z1]
          rfl
        · show z.toInt = if (i : Int) < m then g0 i else g i
          rw [if_neg ei]; exact z2
    · refine ⟨f2, g2, by rw [e3 _ (hne _ w1 e)]; exact u1, ?_, u3⟩
      rw [zn_ls_ne (fun h7 => e ((w2 _ hmA).1.mp h7.symm))]
      exact u2
  · exact z_sl_kept hk4 (e3 _ (hne _ (zn_wfO hwf hq).1 ((zn_wfO hwf hq).2.1 _ hmA)))
end ZNACP
