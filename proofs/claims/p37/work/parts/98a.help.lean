/-! Names that are given anew at each call. -/
theorem zu_kx {own tx own2 : String} {k n k2 sz : Nat} {OB OB2 : Nat → Nat} {U : State} {H : Heap} (h1 : OB2 1 = OB 1) (h2 : OB2 2 = OB 2) (h3 : OB2 3 = OB 3) (h : zs_KX own tx k n own2 k2 OB sz U H) : zs_KX own tx k n own2 k2 OB2 sz U H := by
  unfold zs_KX zs_K zs_K3 at h ⊢
  rw [h1, h2, h3]
  exact h
theorem zu_px {A : Nat → Nat} : ∀ {va : List zNV} {vals : List Value} {q : Nat} {y : Int32}, zn_st A va vals → vals[q]? = some (.int y) → va[q]? = some (.inl y.toInt)
  | [], vals, q, y, h, h1 => by
    have h : vals = [] := h
    rw [h] at h1
    simp at h1
  | v :: S, _, q, y, ⟨w, k', e, hv, hs⟩, h1 => by
    subst e
    match q, h1 with
    | 0, h1 =>
      have e : w = .int y := by simpa using h1
      subst e
      match v, hv with
      | .inl x, ⟨z, e1, e2⟩ =>
        cases e1
        subst e2
        rfl
      | .inr c, hv => exact absurd (show Value.int y = .ref (A c) from hv) (by intro h; cases h)
    | q + 1, h1 => exact zu_px (q := q) hs (by simpa using h1)
def zu_enc (x : Int32) : Nat := x.toBitVec.toNat
theorem zu_enc_ok (x : Int32) : Int32.ofNat (zu_enc x) = x := by
  show (⟨⟨BitVec.ofNat 32 x.toBitVec.toNat⟩⟩ : Int32) = x
  rw [BitVec.ofNat_toNat, BitVec.setWidth_eq]
  rfl
theorem zu_enc_i {v : Int} (h1 : -2147483648 ≤ v) (h2 : v ≤ 2147483647) : (Int32.ofNat (zu_enc (Int32.ofInt v))).toInt = v := by
  rw [zu_enc_ok]
  exact zs_of h1 h2
abbrev zu_i (OB : Nat → Nat) (n : Nat) : Int := (Int32.ofNat (OB n)).toInt
/-- what will be: the stars told behind star and gone, what is kept, what is taken back, the compared answer -/
def zu_PRO (f : Int → Int → Int → Int → Int) (xs : Nat → Int32) (OB : Nat → Nat) (i : Nat) : Prop :=
  zu_i OB 30 = zs_star (zu_i OB 20) (xs (i + 1)).toInt (xs (i + 2)).toInt (xs (i + 3)).toInt (xs (i + 4)).toInt ∧ zu_i OB 31 = zs_gone (zu_i OB 20) (xs (i + 1)).toInt ∧ zu_i OB 35 = 1 ∧ zu_i OB 36 = (if zu_i OB 22 ≠ 0 then zu_i OB 21 else zu_i OB 20) ∧ zu_i OB 40 = f (zu_i OB 20) (xs (i + 1)).toInt (xs (i + 2)).toInt (xs (i + 3)).toInt
def zu_new (f : Int → Int → Int → Int → Int) (xs : Nat → Int32) (OB : Nat → Nat) (i n : Nat) : Nat := match n with
  | 30 => zu_enc (Int32.ofInt (zs_star (zu_i OB 20) (xs (i + 1)).toInt (xs (i + 2)).toInt (xs (i + 3)).toInt (xs (i + 4)).toInt))
  | 31 => zu_enc (Int32.ofInt (zs_gone (zu_i OB 20) (xs (i + 1)).toInt))
  | 35 => 1
  | 36 => if zu_i OB 22 ≠ 0 then OB 21 else OB 20
  | 40 => zu_enc (Int32.ofInt (f (zu_i OB 20) (xs (i + 1)).toInt (xs (i + 2)).toInt (xs (i + 3)).toInt))
  | n => OB n
theorem zu_new_lo {f : Int → Int → Int → Int → Int} {xs : Nat → Int32} {OB : Nat → Nat} {i : Nat} : ∀ n, n < 30 → zu_new f xs OB i n = OB n := by
  intro n hn
  unfold zu_new
  split <;> first | omega | rfl
theorem zu_new_ok {f : Int → Int → Int → Int → Int} (hf : ∀ a b c d, -2147483648 ≤ f a b c d ∧ f a b c d ≤ 2147483647) {xs : Nat → Int32} {OB : Nat → Nat} {i : Nat} : zu_PRO f xs (zu_new f xs OB i) i := by
  have e20 : zu_i (zu_new f xs OB i) 20 = zu_i OB 20 := rfl
  have e21 : zu_i (zu_new f xs OB i) 21 = zu_i OB 21 := rfl
  have e22 : zu_i (zu_new f xs OB i) 22 = zu_i OB 22 := rfl
  have b20 : -2147483648 ≤ zu_i OB 20 ∧ zu_i OB 20 ≤ 2147483647 := ⟨z_lo _, z_hi _⟩
  unfold zu_PRO
  rw [e20, e21, e22]
  refine ⟨zu_enc_i ?_ ?_, zu_enc_i ?_ ?_, rfl, ?_, zu_enc_i (hf _ _ _ _).1 (hf _ _ _ _).2⟩
  · unfold zs_star; split
    · exact (zs_full _ _ _).1
    · exact b20.1
  · unfold zs_star; split
    · exact (zs_full _ _ _).2
    · exact b20.2
  · unfold zs_gone; split
    · exact (zs_full _ _ _).1
    · exact b20.1
  · unfold zs_gone; split
    · exact (zs_full _ _ _).2
    · exact b20.2
  · show (Int32.ofNat (if zu_i OB 22 ≠ 0 then OB 21 else OB 20)).toInt = _
    by_cases h : zu_i OB 22 ≠ 0
    · rw [if_pos h, if_pos h]
    · rw [if_neg h, if_neg h]
theorem zs_walk_b (a b c d : Int) : -2147483648 ≤ zs_walk a b c d ∧ zs_walk a b c d ≤ 2147483647 := by
  unfold zs_walk
  split <;> exact ⟨by decide, by decide⟩
theorem zs_has_b (a b c d : Int) : -2147483648 ≤ zs_has a b ∧ zs_has a b ≤ 2147483647 := by
  unfold zs_has
  split <;> exact ⟨by decide, by decide⟩
theorem zs_has01 {a b : Int} : 0 ≤ zs_has a b ∧ zs_has a b ≤ 1 := by
  unfold zs_has
  split <;> exact ⟨by decide, by decide⟩
theorem zs_walk01 {a b c d : Int} : 0 ≤ zs_walk a b c d ∧ zs_walk a b c d ≤ 1 := by
  unfold zs_walk
  split <;> exact ⟨by decide, by decide⟩
section ZUREB0
variable {OB OB2 : Nat → Nat} {D : va_G} {DA : Nat → ClassId} {cl : List vw_C} {TY : List zTy} {PHI : List (List Nat)} {sz : Nat} {T : zTp} {H0 H : Heap} {env0 env : List Value} {nL : Nat} {locs : List Loc} {ls : Array Slot} {stk : List Value} {tA uA : Nat}
theorem zu_T2_id (h15 : T (OB 15) = some tA) (h16 : T (OB 16) = some uA) : zu_T2 T (OB 15) (OB 16) tA uA = T := by
  funext q
  unfold zu_T2
  by_cases e : q = OB 15
  · rw [if_pos e, e, h15]
  · rw [if_neg e]
    by_cases e2 : q = OB 16
    · rw [if_pos e2, e2, h16]
    · rw [if_neg e2]
/-- the same head, names anew -/
theorem zu_reb0 {N : Int} {cc : Nat × Nat} (t1 : tA < 500) (t2 : uA < 500) (hne : tA ≠ uA) (hag : ∀ n, n < 30 → OB2 n = OB n) (hf : zu_tys TY tA uA = true) (hclb : zu_clb tA uA tA uA (fun v => v) = true)
    (hs : z_sat OB D DA cl TY PHI sz none false (fun _ => none) H0 env0 nL (zu_head N cc tA uA) T H locs env ls stk) : z_sat OB2 D DA cl TY PHI sz none false (fun _ => none) H0 env0 nL (zu_head N cc tA uA) T H locs env ls stk := by
  have hag2 : ∀ n, n < 20 → OB2 n = OB n := fun n hn => hag n (by omega)
  obtain ⟨h1, h2, h3, h4, h5, h6, h7, h8, h9, hm⟩ := hs
  obtain ⟨v0, e0, f0⟩ := h5 (0, .inr (.inr 1)) (List.mem_of_getElem? (i := 0) rfl)
  obtain ⟨v1, e1, f1⟩ := h5 (1, .inl (0, N)) (List.mem_of_getElem? (i := 1) rfl)
  obtain ⟨v2, e2, f2⟩ := h5 (2, .inl (0, N)) (List.mem_of_getElem? (i := 2) rfl)
  obtain ⟨v3, e3, f3⟩ := h5 (3, z_zn 15 tA) (List.mem_of_getElem? (i := 3) rfl)
  obtain ⟨v4, e4, f4⟩ := h5 (4, z_zn 16 uA) (List.mem_of_getElem? (i := 4) rfl)
  obtain ⟨g1, g2⟩ := z_zn_g t1 f3
  obtain ⟨g3, g4⟩ := z_zn_g t2 f4
  have hdf : OB 16 ≠ OB 15 := fun e => by rw [e, g2] at g4; exact hne (Option.some.inj g4)
  have hm2 := zu_mem hag2 g2 g4 rfl rfl hf hm (zu_cl hclb hag2 (fun v hv => hag v hv) g2 g4 hdf hm.1.2.2.2)
  rw [zu_T2_id g2 g4] at hm2
  refine ⟨h1, h2, h3, h4, fun q hq => ?_, fun q hq => absurd hq List.not_mem_nil, fun q hq => absurd hq List.not_mem_nil, fun q hq => absurd hq List.not_mem_nil, trivial, hm2⟩
  have hq : q ∈ [((0 : Nat), (Sum.inr (.inr 1) : zV)), (1, .inl (0, N)), (2, .inl (0, N)), (3, z_zn 15 tA), (4, z_zn 16 uA)] := hq
  rcases List.mem_cons.mp hq with rfl | hq
  · refine ⟨v0, e0, ?_, fun h => absurd h (by decide)⟩
    have : v0 = .ref (OB 0) := f0.1
    show v0 = .ref (OB2 0)
    rw [hag 0 (by omega)]; exact this
  rcases List.mem_cons.mp hq with rfl | hq
  · exact ⟨v1, e1, f1⟩
  rcases List.mem_cons.mp hq with rfl | hq
  · exact ⟨v2, e2, f2⟩
  rcases List.mem_cons.mp hq with rfl | hq
  · exact ⟨v3, e3, z_zn_v t1 (by rw [hag 15 (by omega)]; exact g1) (by rw [hag 15 (by omega)]; exact g2)⟩
  rcases List.mem_cons.mp hq with rfl | hq
  · exact ⟨v4, e4, z_zn_v t2 (by rw [hag 16 (by omega)]; exact g3) (by rw [hag 16 (by omega)]; exact g4)⟩
  cases hq
end ZUREB0
def zu_sg (k n : Nat) : Nat := match k, n with
  | 0, 20 => 30
  | 1, 20 => 31
  | 2, 21 => 20
  | 2, 22 => 35
  | 3, 20 => 36
  | _, n => n
theorem zu_sg_lo {k : Nat} : ∀ n, n < 20 → zu_sg k n = n := by
  intro n hn
  unfold zu_sg
  split <;> first | omega | rfl
