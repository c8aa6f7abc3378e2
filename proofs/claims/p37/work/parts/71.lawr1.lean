/-! The reading of laws by the class: numbers, factors, terms, sums. -/
/-- a byte is read, something is read, a step comes to be -/
theorem zr_step {a1 len st1 a2 st2 kd v : Int} {kinds1 vals1 kinds2 vals2 : Int → Int} (h1 : zr_s a1 len st1 kinds1 vals1) (h2 : zr_s a2 len st2 kinds2 vals2) (hr : zr_r (a1 + 1) st1 kinds1 a2 st2 kinds2) (hk : 0 ≤ kd ∧ kd ≤ 12) (hv : 0 ≤ v ∧ v ≤ 99999 ∧ (kd = 1 → v ≤ 12)) :
    st2 < 200 ∧ zr_s a2 len (st2 + 1) (zn_up kinds2 st2 kd) (zn_up vals2 st2 v) ∧ zr_r a1 st1 kinds1 a2 (st2 + 1) (zn_up kinds2 st2 kd) := by
  obtain ⟨⟨b1, b2, b3, b4⟩, b5⟩ := h1
  obtain ⟨r1, r2, r3, r4⟩ := hr
  have c := h2.1
  refine ⟨by omega, (zr_add h2 hk hv (by omega) (show a2 - 1 + 1 ≤ a2 by omega)).1, by omega, by omega, by omega, fun j hj => ?_⟩
  rw [zn_up_n (by omega), r4 j hj]
theorem zr_s_on {a a' len st : Int} {kinds vals : Int → Int} (h : zr_s a len st kinds vals) (h1 : a ≤ a') (h2 : a' ≤ len) : zr_s a' len st kinds vals := by
  obtain ⟨⟨b1, b2, b3, b4⟩, b5⟩ := h
  exact ⟨⟨b1, by omega, h2, b4⟩, b5⟩
theorem zr_r_on {a st a1 a2 st1 : Int} {kinds kinds1 : Int → Int} (h : zr_r a st kinds a1 st1 kinds1) (h1 : a1 ≤ a2) : zr_r a st kinds a2 st1 kinds1 := by
  obtain ⟨r1, r2, r3, r4⟩ := h
  exact ⟨by omega, r2, by omega, r4⟩
theorem zr_r_in {a st a1 st1 : Int} {kinds kinds1 : Int → Int} (h : zr_r (a + 1) st kinds a1 st1 kinds1) : zr_r a st kinds a1 st1 kinds1 := by
  obtain ⟨r1, r2, r3, r4⟩ := h
  exact ⟨by omega, r2, by omega, r4⟩
/-- the place of a letter in the letters -/
def zr_ix : Prop := ∀ (rm : Nat × Nat) (good : Nat → List zNV → List zNV → List Int → List (Int → Int) → Prop), zn_B z_cl z_FT z_KX z_TB z_MT zyL zxm45 zkR rm good → 6 ≤ rm.1 → 360 ≤ rm.2 → ∀ (L : List zNV) (F : List Int) (G : List (Int → Int)) (x : Int), zn_l L 2 = some (.inl x) → (∀ v : Int, -1 ≤ v → v ≤ 12 → good 87 L [.inl v] F G) → good 80 L [] F G
/-- what a reader of a part asks and what it gives -/
abbrev zr_P (a len fl st o : Int) (text kinds vals : Int → Int) (Fr : List Int) (Gr : List (Int → Int)) (k : Nat) : zNP := fun va F G => va = [.inr 0, .inl o] ∧ F = a :: len :: fl :: st :: Fr ∧ G = text :: kinds :: vals :: Gr ∧ zr_s a len st kinds vals ∧ 0 ≤ o ∧ o ≤ 6 ∧ 6 - o ≤ k
abbrev zr_Q (a len st : Int) (text kinds : Int → Int) (Fr : List Int) (Gr : List (Int → Int)) : zNQ := fun _ _ _ r F' G' => r = none ∧ ∃ a' fl' st' kinds' vals', F' = a' :: len :: fl' :: st' :: Fr ∧ G' = text :: kinds' :: vals' :: Gr ∧ zr_s a' len st' kinds' vals' ∧ zr_r a st kinds a' st' kinds'
def zr_OK (mm : zM) (lv : Nat) (k : Nat) : Prop := ∀ (a len fl st o : Int) (text kinds vals : Int → Int) (Fr : List Int) (Gr : List (Int → Int)), zn_OK z_TB z_cl z_KX zyL mm (lv, 60 * lv) (zr_P a len fl st o text kinds vals Fr Gr k) (zr_Q a len st text kinds Fr Gr)
/-- the conditions of a call, where the room is not a number -/
theorem zr_hc {A B C : Bool} {a b c d : Nat} (h1 : A = true) (h2 : B = true) (h3 : C = true) (h4 : a ≤ b) (h5 : c ≤ d) : (A && B && C && (Nat.ble a b && Nat.ble c d)) = true := by
  rw [h1, h2, h3, Nat.ble_eq_true_of_le h4, Nat.ble_eq_true_of_le h5]; rfl
section ZLAWR1
variable {a len fl st o : Int} {text kinds vals : Int → Int} {Fr : List Int} {Gr : List (Int → Int)}
theorem zd48_0 : decode zxm48.2.1 0 = .ok (.iconst 0, 1) := by decide +kernel
theorem zd48_1 : decode zxm48.2.1 1 = .ok (.istore_n 1, 1) := by decide +kernel
theorem zd48_2 : decode zxm48.2.1 2 = .ok (.iconst 0, 1) := by decide +kernel
theorem zd48_3 : decode zxm48.2.1 3 = .ok (.istore_n 2, 1) := by decide +kernel
theorem zd48_4 : decode zxm48.2.1 4 = .ok (.iload_n 2, 1) := by decide +kernel
theorem zd48_5 : decode zxm48.2.1 5 = .ok (.iconst 5, 1) := by decide +kernel
theorem zd48_6 : decode zxm48.2.1 6 = .ok (.if_icmp .ge 42, 3) := by decide +kernel
theorem zd48_9 : decode zxm48.2.1 9 = .ok (.aload_n 0, 1) := by decide +kernel
theorem zd48_10 : decode zxm48.2.1 10 = .ok (.invokevirtual 53, 3) := by decide +kernel
theorem zd48_13 : decode zxm48.2.1 13 = .ok (.invokestatic 94, 3) := by decide +kernel
theorem zd48_16 : decode zxm48.2.1 16 = .ok (.ifCond .eq 32, 3) := by decide +kernel
theorem zd48_19 : decode zxm48.2.1 19 = .ok (.bipush 10, 2) := by decide +kernel
theorem zd48_21 : decode zxm48.2.1 21 = .ok (.iload_n 1, 1) := by decide +kernel
theorem zd48_22 : decode zxm48.2.1 22 = .ok (.imul, 1) := by decide +kernel
theorem zd48_23 : decode zxm48.2.1 23 = .ok (.aload_n 0, 1) := by decide +kernel
theorem zd48_24 : decode zxm48.2.1 24 = .ok (.invokevirtual 53, 3) := by decide +kernel
theorem zd48_27 : decode zxm48.2.1 27 = .ok (.iadd, 1) := by decide +kernel
theorem zd48_28 : decode zxm48.2.1 28 = .ok (.bipush 48, 2) := by decide +kernel
theorem zd48_30 : decode zxm48.2.1 30 = .ok (.isub, 1) := by decide +kernel
theorem zd48_31 : decode zxm48.2.1 31 = .ok (.istore_n 1, 1) := by decide +kernel
theorem zd48_32 : decode zxm48.2.1 32 = .ok (.aload_n 0, 1) := by decide +kernel
theorem zd48_33 : decode zxm48.2.1 33 = .ok (.dup, 1) := by decide +kernel
theorem zd48_34 : decode zxm48.2.1 34 = .ok (.getfield 15, 3) := by decide +kernel
theorem zd48_37 : decode zxm48.2.1 37 = .ok (.iconst 1, 1) := by decide +kernel
theorem zd48_38 : decode zxm48.2.1 38 = .ok (.iadd, 1) := by decide +kernel
theorem zd48_39 : decode zxm48.2.1 39 = .ok (.putfield 15, 3) := by decide +kernel
theorem zd48_42 : decode zxm48.2.1 42 = .ok (.iinc 2 1, 3) := by decide +kernel
theorem zd48_45 : decode zxm48.2.1 45 = .ok (.goto (-41), 3) := by decide +kernel
theorem zd48_48 : decode zxm48.2.1 48 = .ok (.aload_n 0, 1) := by decide +kernel
theorem zd48_49 : decode zxm48.2.1 49 = .ok (.invokevirtual 53, 3) := by decide +kernel
theorem zd48_52 : decode zxm48.2.1 52 = .ok (.invokestatic 94, 3) := by decide +kernel
theorem zd48_55 : decode zxm48.2.1 55 = .ok (.ifCond .eq 8, 3) := by decide +kernel
theorem zd48_58 : decode zxm48.2.1 58 = .ok (.aload_n 0, 1) := by decide +kernel
theorem zd48_59 : decode zxm48.2.1 59 = .ok (.iconst 2, 1) := by decide +kernel
theorem zd48_60 : decode zxm48.2.1 60 = .ok (.invokevirtual 57, 3) := by decide +kernel
theorem zd48_63 : decode zxm48.2.1 63 = .ok (.aload_n 0, 1) := by decide +kernel
theorem zd48_64 : decode zxm48.2.1 64 = .ok (.getfield 25, 3) := by decide +kernel
theorem zd48_67 : decode zxm48.2.1 67 = .ok (.iconst 0, 1) := by decide +kernel
theorem zd48_68 : decode zxm48.2.1 68 = .ok (.iload_n 1, 1) := by decide +kernel
theorem zd48_69 : decode zxm48.2.1 69 = .ok (.invokevirtual 76, 3) := by decide +kernel
theorem zd48_72 : decode zxm48.2.1 72 = .ok (.pop, 1) := by decide +kernel
theorem zd48_73 : decode zxm48.2.1 73 = .ok (.return_, 1) := by decide +kernel
theorem zh48  : zn_OK z_TB z_cl z_KX zyL zxm48 (2, 120) (fun va F G => va = [.inr 0] ∧ F = a :: len :: fl :: st :: Fr ∧ G = text :: kinds :: vals :: Gr ∧ zr_s a len st kinds vals ∧ 48 ≤ zr_p text a len ∧ zr_p text a len ≤ 57) (fun va F G r F' G' => r = none ∧ ∃ a' fl' st' kinds' vals', F' = a' :: len :: fl' :: st' :: Fr ∧ G' = text :: kinds' :: vals' :: Gr ∧ zr_s a' len st' kinds' vals' ∧ zr_r a st kinds a' st' kinds') := zn_meth (K := zkR) (FT := z_FT) (MT := z_MT) (n := 1) zxp48 (z_ks3 _ (fun _ h => List.mem_cons_of_mem _ h) _ _ _ _ (fun j r h _ => by cases h)) (fun _ _ => zs_KX_p) (by decide +kernel) (fun va F G h => by obtain ⟨rfl, _⟩ := h; rfl) rfl fun good va F G hB hret hvret hP => by
  obtain ⟨rfl, rfl, rfl, hs, h1, h2⟩ := hP
  obtain ⟨⟨b1, b2, b3, b4⟩, b5⟩ := hs
  have hs : zr_s a len st kinds vals := ⟨⟨b1, b2, b3, b4⟩, b5⟩
  have body : ∀ (num dg a1 : Int), a + 1 ≤ a1 → a1 ≤ len → 0 ≤ num → num ≤ 99999 → good 48 [.inr 0, .inl num, .inl dg] [] (a1 :: len :: fl :: st :: Fr) (text :: kinds :: vals :: Gr) := by
    intro num dg a1 c1 c2 c3 c4
    have hz := zr_add (kd := 0) (v := num) (zr_s_on hs (a' := a1) (by omega) c2) (by omega) (by omega) (by omega) c1
    refine zn_ald hB zd48_48 rfl rfl rfl ?_
    refine zn_iv0 hB (zh40 (a := a1) (len := len) (text := text)) zd48_49 zxt40 rfl ⟨rfl, rfl, rfl, by omega⟩ (fun r49 F49 G49 hq49 => ?_)
    obtain ⟨rfl, rfl, rfl⟩ := hq49
    refine zn_it1 hB zh47 zd48_52 zxt47 rfl rfl (fun r52 F52 G52 hq52 => ?_)
    obtain ⟨rfl, rfl, hx52⟩ := hq52
    rcases hx52 with ⟨rfl, y52, z52⟩ | ⟨rfl, y52⟩
    · refine zn_zeq hB zd48_55 rfl (fun h55 => ?_) (fun h55 => ?_)
      · exfalso; omega
      · refine zn_ald hB zd48_58 rfl rfl rfl ?_
        refine zn_con hB zd48_59 rfl ?_
        refine zn_iv1 hB zh41 zd48_60 zxt41 rfl ⟨rfl, rfl⟩ (fun r60 F60 G60 hq60 => ?_)
        obtain ⟨rfl, fl1, rfl, rfl⟩ := hq60
        refine zn_ald hB zd48_63 rfl rfl rfl ?_
        refine zn_getr hB zd48_64 rfl ?_
        refine zn_con hB zd48_67 rfl ?_
        refine zn_ild hB zd48_68 rfl rfl ?_
        refine zn_iv2 hB (zh49 (st := st) (kinds := kinds) (vals := vals)) zd48_69 zxt49 rfl ⟨rfl, rfl, rfl, by omega, by omega⟩ (fun r69 F69 G69 hq69 => ?_)
        obtain ⟨rfl, rfl, rfl⟩ := hq69
        refine zn_pop hB zd48_72 ?_
        exact hvret _ _ _ _ zd48_73 trivial ⟨rfl, a1, _, st + 1, _, _, rfl, rfl, hz.1, hz.2⟩
    · refine zn_zeq hB zd48_55 rfl (fun h55 => ?_) (fun h55 => ?_)
      · refine zn_ald hB zd48_63 rfl rfl rfl ?_
        refine zn_getr hB zd48_64 rfl ?_
        refine zn_con hB zd48_67 rfl ?_
        refine zn_ild hB zd48_68 rfl rfl ?_
        refine zn_iv2 hB (zh49 (st := st) (kinds := kinds) (vals := vals)) zd48_69 zxt49 rfl ⟨rfl, rfl, rfl, by omega, by omega⟩ (fun r69 F69 G69 hq69 => ?_)
        obtain ⟨rfl, rfl, rfl⟩ := hq69
        refine zn_pop hB zd48_72 ?_
        exact hvret _ _ _ _ zd48_73 trivial ⟨rfl, a1, _, st + 1, _, _, rfl, rfl, hz.1, hz.2⟩
      · exfalso; omega
  have key : ∀ (n : Nat) (num dg a1 : Int), 5 - dg < n → a1 = a + dg → a1 ≤ len → 0 ≤ num → ((dg = 0 ∧ num = 0) ∨ (dg = 1 ∧ num ≤ 9) ∨ (dg = 2 ∧ num ≤ 99) ∨ (dg = 3 ∧ num ≤ 999) ∨ (dg = 4 ∧ num ≤ 9999) ∨ (dg = 5 ∧ num ≤ 99999)) → good 4 [.inr 0, .inl num, .inl dg] [] (a1 :: len :: fl :: st :: Fr) (text :: kinds :: vals :: Gr) := by
    intro n
    induction n with
    | zero =>
      intro num dg a1 c1 c2 c3 c4 c5
      exfalso; omega
    | succ n ih =>
      intro num dg a1 c1 c2 c3 c4 c5
      refine zn_ild hB zd48_4 rfl rfl ?_
      refine zn_con hB zd48_5 rfl ?_
      refine zn_cge hB zd48_6 rfl (fun h6 => ?_) (fun h6 => ?_)
      · have e1 : 1 ≤ dg ∨ (dg = 0 ∧ a1 = a) := by omega
        rcases e1 with e1 | ⟨e1, e2⟩
        · exact body num dg a1 (by omega) c3 c4 (by omega)
        · exfalso
          subst e2
          omega
      · refine zn_ald hB zd48_9 rfl rfl rfl ?_
        refine zn_iv0 hB (zh40 (a := a1) (len := len) (text := text)) zd48_10 zxt40 rfl ⟨rfl, rfl, rfl, by omega⟩ (fun r10 F10 G10 hq10 => ?_)
        obtain ⟨rfl, rfl, rfl⟩ := hq10
        refine zn_it1 hB zh47 zd48_13 zxt47 rfl rfl (fun r13 F13 G13 hq13 => ?_)
        obtain ⟨rfl, rfl, hx13⟩ := hq13
        rcases hx13 with ⟨rfl, y13, z13⟩ | ⟨rfl, y13⟩
        · refine zn_zeq hB zd48_16 rfl (fun h16 => ?_) (fun h16 => ?_)
          · exfalso; omega
          · have hlt := zr_p_lt (text := text) (a := a1) (len := len) (by omega)
            refine zn_con hB zd48_19 rfl ?_
            refine zn_ild hB zd48_21 rfl rfl ?_
            refine zn_imul hB zd48_22 (by omega) (by omega) ?_
            refine zn_ald hB zd48_23 rfl rfl rfl ?_
            refine zn_iv0 hB (zh40 (a := a1) (len := len) (text := text)) zd48_24 zxt40 rfl ⟨rfl, rfl, rfl, by omega⟩ (fun r24 F24 G24 hq24 => ?_)
            obtain ⟨rfl, rfl, rfl⟩ := hq24
            refine zn_iadd hB zd48_27 (by omega) (by omega) ?_
            refine zn_con hB zd48_28 rfl ?_
            refine zn_isub hB zd48_30 (by omega) (by omega) ?_
            refine zn_ist hB zd48_31 rfl rfl rfl ?_
            refine zn_ald hB zd48_32 rfl rfl rfl ?_
            refine zn_dup hB zd48_33 ?_
            refine zn_getf hB zd48_34 rfl rfl (fun q34 r34 => ?_)
            refine zn_con hB zd48_37 rfl ?_
            refine zn_iadd hB zd48_38 (by omega) (by omega) ?_
            refine zn_putf hB zd48_39 rfl rfl (fun h => by cases h) rfl ?_
            refine zn_iinc hB zd48_42 rfl rfl (by omega) (by omega) ?_
            refine zn_goto hB zd48_45 rfl ?_
            exact ih _ _ _ (by omega) (by omega) (by omega) (by omega) (by omega)
        · refine zn_zeq hB zd48_16 rfl (fun h16 => ?_) (fun h16 => ?_)
          · have e1 : 1 ≤ dg ∨ (dg = 0 ∧ a1 = a) := by omega
            rcases e1 with e1 | ⟨e1, e2⟩
            · exact body num dg a1 (by omega) c3 c4 (by omega)
            · exfalso
              subst e2
              omega
          · exfalso; omega
  refine zn_con hB zd48_0 rfl ?_
  refine zn_ist hB zd48_1 rfl rfl rfl ?_
  refine zn_con hB zd48_2 rfl ?_
  refine zn_ist hB zd48_3 rfl rfl rfl ?_
  exact key 6 0 0 a (by omega) (by omega) b3 (by omega) (Or.inl ⟨rfl, rfl⟩)
theorem zd45_0 : decode zxm45.2.1 0 = .ok (.aload_n 0, 1) := by decide +kernel
theorem zd45_1 : decode zxm45.2.1 1 = .ok (.getfield 18, 3) := by decide +kernel
theorem zd45_4 : decode zxm45.2.1 4 = .ok (.ifCond .eq 4, 3) := by decide +kernel
theorem zd45_7 : decode zxm45.2.1 7 = .ok (.return_, 1) := by decide +kernel
theorem zd45_8 : decode zxm45.2.1 8 = .ok (.aload_n 0, 1) := by decide +kernel
theorem zd45_9 : decode zxm45.2.1 9 = .ok (.invokevirtual 53, 3) := by decide +kernel
theorem zd45_12 : decode zxm45.2.1 12 = .ok (.istore_n 2, 1) := by decide +kernel
theorem zd45_13 : decode zxm45.2.1 13 = .ok (.iload_n 2, 1) := by decide +kernel
theorem zd45_14 : decode zxm45.2.1 14 = .ok (.bipush 91, 2) := by decide +kernel
theorem zd45_16 : decode zxm45.2.1 16 = .ok (.if_icmp .ne 41, 3) := by decide +kernel
theorem zd45_19 : decode zxm45.2.1 19 = .ok (.iload_n 1, 1) := by decide +kernel
theorem zd45_20 : decode zxm45.2.1 20 = .ok (.bipush 6, 2) := by decide +kernel
theorem zd45_22 : decode zxm45.2.1 22 = .ok (.if_icmp .lt 9, 3) := by decide +kernel
theorem zd45_25 : decode zxm45.2.1 25 = .ok (.aload_n 0, 1) := by decide +kernel
theorem zd45_26 : decode zxm45.2.1 26 = .ok (.iconst 5, 1) := by decide +kernel
theorem zd45_27 : decode zxm45.2.1 27 = .ok (.invokevirtual 57, 3) := by decide +kernel
theorem zd45_30 : decode zxm45.2.1 30 = .ok (.return_, 1) := by decide +kernel
theorem zd45_31 : decode zxm45.2.1 31 = .ok (.aload_n 0, 1) := by decide +kernel
theorem zd45_32 : decode zxm45.2.1 32 = .ok (.dup, 1) := by decide +kernel
theorem zd45_33 : decode zxm45.2.1 33 = .ok (.getfield 15, 3) := by decide +kernel
theorem zd45_36 : decode zxm45.2.1 36 = .ok (.iconst 1, 1) := by decide +kernel
theorem zd45_37 : decode zxm45.2.1 37 = .ok (.iadd, 1) := by decide +kernel
theorem zd45_38 : decode zxm45.2.1 38 = .ok (.putfield 15, 3) := by decide +kernel
theorem zd45_41 : decode zxm45.2.1 41 = .ok (.aload_n 0, 1) := by decide +kernel
theorem zd45_42 : decode zxm45.2.1 42 = .ok (.iload_n 1, 1) := by decide +kernel
theorem zd45_43 : decode zxm45.2.1 43 = .ok (.iconst 1, 1) := by decide +kernel
theorem zd45_44 : decode zxm45.2.1 44 = .ok (.iadd, 1) := by decide +kernel
theorem zd45_45 : decode zxm45.2.1 45 = .ok (.invokevirtual 63, 3) := by decide +kernel
theorem zd45_48 : decode zxm45.2.1 48 = .ok (.aload_n 0, 1) := by decide +kernel
theorem zd45_49 : decode zxm45.2.1 49 = .ok (.bipush 93, 2) := by decide +kernel
theorem zd45_51 : decode zxm45.2.1 51 = .ok (.invokevirtual 43, 3) := by decide +kernel
theorem zd45_54 : decode zxm45.2.1 54 = .ok (.goto 65, 3) := by decide +kernel
theorem zd45_57 : decode zxm45.2.1 57 = .ok (.iload_n 2, 1) := by decide +kernel
theorem zd45_58 : decode zxm45.2.1 58 = .ok (.invokestatic 94, 3) := by decide +kernel
theorem zd45_61 : decode zxm45.2.1 61 = .ok (.ifCond .eq 10, 3) := by decide +kernel
theorem zd45_64 : decode zxm45.2.1 64 = .ok (.aload_n 0, 1) := by decide +kernel
theorem zd45_65 : decode zxm45.2.1 65 = .ok (.invokevirtual 98, 3) := by decide +kernel
theorem zd45_68 : decode zxm45.2.1 68 = .ok (.goto 51, 3) := by decide +kernel
theorem zd45_71 : decode zxm45.2.1 71 = .ok (.iload_n 2, 1) := by decide +kernel
theorem zd45_72 : decode zxm45.2.1 72 = .ok (.iconst (-1), 1) := by decide +kernel
theorem zd45_73 : decode zxm45.2.1 73 = .ok (.if_icmp .ne 7, 3) := by decide +kernel
theorem zd45_76 : decode zxm45.2.1 76 = .ok (.iconst (-1), 1) := by decide +kernel
theorem zd45_77 : decode zxm45.2.1 77 = .ok (.goto 10, 3) := by decide +kernel
theorem zd45_80 : decode zxm45.2.1 80 = .ok (.ldc 101, 2) := by decide +kernel
theorem zd45_87 : decode zxm45.2.1 87 = .ok (.istore_n 3, 1) := by decide +kernel
theorem zd45_88 : decode zxm45.2.1 88 = .ok (.iload_n 3, 1) := by decide +kernel
theorem zd45_89 : decode zxm45.2.1 89 = .ok (.iconst (-1), 1) := by decide +kernel
theorem zd45_90 : decode zxm45.2.1 90 = .ok (.if_icmp .ne 9, 3) := by decide +kernel
theorem zd45_93 : decode zxm45.2.1 93 = .ok (.aload_n 0, 1) := by decide +kernel
theorem zd45_94 : decode zxm45.2.1 94 = .ok (.iconst 1, 1) := by decide +kernel
theorem zd45_95 : decode zxm45.2.1 95 = .ok (.invokevirtual 57, 3) := by decide +kernel
theorem zd45_98 : decode zxm45.2.1 98 = .ok (.return_, 1) := by decide +kernel
theorem zd45_99 : decode zxm45.2.1 99 = .ok (.aload_n 0, 1) := by decide +kernel
theorem zd45_100 : decode zxm45.2.1 100 = .ok (.dup, 1) := by decide +kernel
theorem zd45_101 : decode zxm45.2.1 101 = .ok (.getfield 15, 3) := by decide +kernel
theorem zd45_104 : decode zxm45.2.1 104 = .ok (.iconst 1, 1) := by decide +kernel
theorem zd45_105 : decode zxm45.2.1 105 = .ok (.iadd, 1) := by decide +kernel
theorem zd45_106 : decode zxm45.2.1 106 = .ok (.putfield 15, 3) := by decide +kernel
theorem zd45_109 : decode zxm45.2.1 109 = .ok (.aload_n 0, 1) := by decide +kernel
theorem zd45_110 : decode zxm45.2.1 110 = .ok (.getfield 25, 3) := by decide +kernel
theorem zd45_113 : decode zxm45.2.1 113 = .ok (.iconst 1, 1) := by decide +kernel
theorem zd45_114 : decode zxm45.2.1 114 = .ok (.iload_n 3, 1) := by decide +kernel
theorem zd45_115 : decode zxm45.2.1 115 = .ok (.invokevirtual 76, 3) := by decide +kernel
theorem zd45_118 : decode zxm45.2.1 118 = .ok (.pop, 1) := by decide +kernel
theorem zd45_119 : decode zxm45.2.1 119 = .ok (.return_, 1) := by decide +kernel
theorem zh45 (hix : zr_ix) {k : Nat} (hS : ∀ k', k = k' + 1 → zr_OK zxm43 (8 + 3 * k') k') : zr_OK zxm45 (6 + 3 * k) k := fun a len fl st o text kinds vals Fr Gr => zn_meth (K := zkR) (FT := z_FT) (MT := z_MT) (n := 2) zxp45 (z_ks3 _ (fun _ h => List.mem_cons_of_mem _ h) _ _ _ _ (fun j r h _ => by cases h)) (fun _ _ => zs_KX_p) (by decide +kernel) (fun va F G h => by obtain ⟨rfl, _⟩ := h; rfl) rfl fun good va F G hB hret hvret hP => by
  obtain ⟨rfl, rfl, rfl, hs, ho1, ho2, ho3⟩ := hP
  obtain ⟨⟨b1, b2, b3, b4⟩, b5⟩ := hs
  have hs : zr_s a len st kinds vals := ⟨⟨b1, b2, b3, b4⟩, b5⟩
  refine zn_ald hB zd45_0 rfl rfl rfl ?_
  refine zn_getf hB zd45_1 rfl rfl (fun q1 r1 => ?_)
  refine zn_zeq hB zd45_4 rfl (fun h4 => ?_) (fun h4 => ?_)
  · refine zn_ald hB zd45_8 rfl rfl rfl ?_
    refine zn_iv0 hB (zh40 (a := a) (len := len) (text := text)) zd45_9 zxt40 (zr_hc rfl rfl rfl (show 0 + 1 ≤ 6 + 3 * k by omega) (show 8 + (1 + 11) + 60 * (0) ≤ 60 * (6 + 3 * k) by omega)) ⟨rfl, rfl, rfl, by omega⟩ (fun r9 F9 G9 hq9 => ?_)
    obtain ⟨rfl, rfl, rfl⟩ := hq9
    refine zn_ist hB zd45_12 rfl rfl rfl ?_
    refine zn_ild hB zd45_13 rfl rfl ?_
    refine zn_con hB zd45_14 rfl ?_
    refine zn_cne hB zd45_16 rfl (fun h16 => ?_) (fun h16 => ?_)
    · refine zn_ild hB zd45_57 rfl rfl ?_
      refine zn_it1 hB zh47 zd45_58 zxt47 (zr_hc rfl rfl rfl (show 0 + 1 ≤ 6 + 3 * k by omega) (show 8 + (1 + 11) + 60 * (0) ≤ 60 * (6 + 3 * k) by omega)) rfl (fun r58 F58 G58 hq58 => ?_)
      obtain ⟨rfl, rfl, hx58⟩ := hq58
      rcases hx58 with ⟨rfl, y58, z58⟩ | ⟨rfl, y58⟩
      · refine zn_zeq hB zd45_61 rfl (fun h61 => ?_) (fun h61 => ?_)
        · exfalso; omega
        · refine zn_ald hB zd45_64 rfl rfl rfl ?_
          refine zn_iv0 hB (zh48 (a := a) (len := len) (text := text)) zd45_65 zxt48 (zr_hc rfl rfl rfl (show 2 + 1 ≤ 6 + 3 * k by omega) (show 8 + (3 + 11) + 60 * (2) ≤ 60 * (6 + 3 * k) by omega)) ⟨rfl, rfl, rfl, hs, by omega, by omega⟩ (fun r65 F65 G65 hq65 => ?_)
          obtain ⟨rfl, a2, fl2, st2, kinds2, vals2, rfl, rfl, s2, r2⟩ := hq65
          refine zn_goto hB zd45_68 rfl ?_
          first | exact hvret _ _ _ _ zd45_119 trivial ⟨rfl, _, _, _, _, _, rfl, rfl, zr_s_on s2 k1 k2, zr_r_on (zr_r_in r2) k1⟩ | exact hvret _ _ _ _ zd45_119 trivial ⟨rfl, _, _, _, _, _, rfl, rfl, s2, r2⟩ | exact hvret _ _ _ _ zd45_119 trivial ⟨rfl, _, _, _, _, _, rfl, rfl, hz.1, hz.2⟩
      · refine zn_zeq hB zd45_61 rfl (fun h61 => ?_) (fun h61 => ?_)
        · refine zn_ild hB zd45_71 rfl rfl ?_
          refine zn_con hB zd45_72 rfl ?_
          refine zn_cne hB zd45_73 rfl (fun h73 => ?_) (fun h73 => ?_)
          · have hlt := zr_p_lt (text := text) (a := a) (len := len) h73
            refine hix _ good hB (by show 6 ≤ 6 + 3 * k; omega) (by show 360 ≤ 60 * (6 + 3 * k); omega) _ _ _ (zr_p text a len) rfl (fun v80 q80 r80 => ?_)
            refine zn_ist hB zd45_87 rfl rfl rfl ?_
            refine zn_ild hB zd45_88 rfl rfl ?_
            refine zn_con hB zd45_89 rfl ?_
            refine zn_cne hB zd45_90 rfl (fun h90 => ?_) (fun h90 => ?_)
            · have hz := zr_add (a := a + 1) (a0 := a) (kd := 1) (v := v80) (zr_s_on hs (a' := a + 1) (by omega) (by omega)) (by omega) (by omega) (by omega) (Int.le_refl _)
              refine zn_ald hB zd45_99 rfl rfl rfl ?_
              refine zn_dup hB zd45_100 ?_
              refine zn_getf hB zd45_101 rfl rfl (fun q101 r101 => ?_)
              refine zn_con hB zd45_104 rfl ?_
              refine zn_iadd hB zd45_105 (by omega) (by omega) ?_
              refine zn_putf hB zd45_106 rfl rfl (fun h => by cases h) rfl ?_
              refine zn_ald hB zd45_109 rfl rfl rfl ?_
              refine zn_getr hB zd45_110 rfl ?_
              refine zn_con hB zd45_113 rfl ?_
              refine zn_ild hB zd45_114 rfl rfl ?_
              refine zn_iv2 hB (zh49 (st := st) (kinds := kinds) (vals := vals)) zd45_115 zxt49 (zr_hc rfl rfl rfl (show 0 + 1 ≤ 6 + 3 * k by omega) (show 8 + (3 + 11) + 60 * (0) ≤ 60 * (6 + 3 * k) by omega)) ⟨rfl, rfl, rfl, by omega, by omega⟩ (fun r115 F115 G115 hq115 => ?_)
              obtain ⟨rfl, rfl, rfl⟩ := hq115
              refine zn_pop hB zd45_118 ?_
              first | exact hvret _ _ _ _ zd45_119 trivial ⟨rfl, _, _, _, _, _, rfl, rfl, zr_s_on s2 k1 k2, zr_r_on (zr_r_in r2) k1⟩ | exact hvret _ _ _ _ zd45_119 trivial ⟨rfl, _, _, _, _, _, rfl, rfl, s2, r2⟩ | exact hvret _ _ _ _ zd45_119 trivial ⟨rfl, _, _, _, _, _, rfl, rfl, hz.1, hz.2⟩
            · refine zn_ald hB zd45_93 rfl rfl rfl ?_
              refine zn_con hB zd45_94 rfl ?_
              refine zn_iv1 hB zh41 zd45_95 zxt41 (zr_hc rfl rfl rfl (show 1 + 1 ≤ 6 + 3 * k by omega) (show 8 + (2 + 11) + 60 * (1) ≤ 60 * (6 + 3 * k) by omega)) ⟨rfl, rfl⟩ (fun r95 F95 G95 hq95 => ?_)
              obtain ⟨rfl, fl1, rfl, rfl⟩ := hq95
              exact hvret _ _ _ _ zd45_98 trivial ⟨rfl, _, _, _, _, _, rfl, rfl, hs, zr_r_rf⟩
          · refine zn_con hB zd45_76 rfl ?_
            refine zn_goto hB zd45_77 rfl ?_
            refine zn_ist hB zd45_87 rfl rfl rfl ?_
            refine zn_ild hB zd45_88 rfl rfl ?_
            refine zn_con hB zd45_89 rfl ?_
            refine zn_cne hB zd45_90 rfl (fun h90 => ?_) (fun h90 => ?_)
            · exfalso; omega
            · refine zn_ald hB zd45_93 rfl rfl rfl ?_
              refine zn_con hB zd45_94 rfl ?_
              refine zn_iv1 hB zh41 zd45_95 zxt41 (zr_hc rfl rfl rfl (show 1 + 1 ≤ 6 + 3 * k by omega) (show 8 + (2 + 11) + 60 * (1) ≤ 60 * (6 + 3 * k) by omega)) ⟨rfl, rfl⟩ (fun r95 F95 G95 hq95 => ?_)
              obtain ⟨rfl, fl1, rfl, rfl⟩ := hq95
              exact hvret _ _ _ _ zd45_98 trivial ⟨rfl, _, _, _, _, _, rfl, rfl, hs, zr_r_rf⟩
        · exfalso; omega
    · refine zn_ild hB zd45_19 rfl rfl ?_
      refine zn_con hB zd45_20 rfl ?_
      refine zn_clt hB zd45_22 rfl (fun h22 => ?_) (fun h22 => ?_)
      · have hlt := zr_p_lt (text := text) (a := a) (len := len) (by omega)
        obtain ⟨k', hk⟩ : ∃ k', k = k' + 1 := ⟨k - 1, by omega⟩
        refine zn_ald hB zd45_31 rfl rfl rfl ?_
        refine zn_dup hB zd45_32 ?_
        refine zn_getf hB zd45_33 rfl rfl (fun q33 r33 => ?_)
        refine zn_con hB zd45_36 rfl ?_
        refine zn_iadd hB zd45_37 (by omega) (by omega) ?_
        refine zn_putf hB zd45_38 rfl rfl (fun h => by cases h) rfl ?_
        refine zn_ald hB zd45_41 rfl rfl rfl ?_
        refine zn_ild hB zd45_42 rfl rfl ?_
        refine zn_con hB zd45_43 rfl ?_
        refine zn_iadd hB zd45_44 (by omega) (by omega) ?_
        refine zn_iv1 hB (hS k' hk (a + 1) len (fl) (st) (o + 1) text (kinds) (vals) _ _) zd45_45 zxt43 (zr_hc rfl rfl rfl (show 8 + 3 * k' + 1 ≤ 6 + 3 * k by omega) (show 8 + (3 + 11) + 60 * (8 + 3 * k') ≤ 60 * (6 + 3 * k) by omega)) ⟨rfl, rfl, rfl, zr_s_on hs (by omega) (by omega), by omega, by omega, by omega⟩ (fun r45 F45 G45 hq45 => ?_)
        obtain ⟨rfl, a2, fl2, st2, kinds2, vals2, rfl, rfl, s2, r2⟩ := hq45
        have c2 := s2.1
        refine zn_ald hB zd45_48 rfl rfl rfl ?_
        refine zn_con hB zd45_49 rfl ?_
        refine zn_iv1 hB (zh46 (a := a2) (len := len)) zd45_51 zxt46 (zr_hc rfl rfl rfl (show 2 + 1 ≤ 6 + 3 * k by omega) (show 8 + (2 + 11) + 60 * (2) ≤ 60 * (6 + 3 * k) by omega)) ⟨rfl, rfl, rfl, by omega, by omega, by omega, by omega⟩ (fun r51 F51 G51 hq51 => ?_)
        obtain ⟨rfl, a3, fl3, rfl, rfl, k1, k2⟩ := hq51
        refine zn_goto hB zd45_54 rfl ?_
        first | exact hvret _ _ _ _ zd45_119 trivial ⟨rfl, _, _, _, _, _, rfl, rfl, zr_s_on s2 k1 k2, zr_r_on (zr_r_in r2) k1⟩ | exact hvret _ _ _ _ zd45_119 trivial ⟨rfl, _, _, _, _, _, rfl, rfl, s2, r2⟩ | exact hvret _ _ _ _ zd45_119 trivial ⟨rfl, _, _, _, _, _, rfl, rfl, hz.1, hz.2⟩
      · refine zn_ald hB zd45_25 rfl rfl rfl ?_
        refine zn_con hB zd45_26 rfl ?_
        refine zn_iv1 hB zh41 zd45_27 zxt41 (zr_hc rfl rfl rfl (show 1 + 1 ≤ 6 + 3 * k by omega) (show 8 + (2 + 11) + 60 * (1) ≤ 60 * (6 + 3 * k) by omega)) ⟨rfl, rfl⟩ (fun r27 F27 G27 hq27 => ?_)
        obtain ⟨rfl, fl1, rfl, rfl⟩ := hq27
        exact hvret _ _ _ _ zd45_30 trivial ⟨rfl, _, _, _, _, _, rfl, rfl, hs, zr_r_rf⟩
  · exact hvret _ _ _ _ zd45_7 trivial ⟨rfl, _, _, _, _, _, rfl, rfl, hs, zr_r_rf⟩
theorem zd44_0 : decode zxm44.2.1 0 = .ok (.aload_n 0, 1) := by decide +kernel
theorem zd44_1 : decode zxm44.2.1 1 = .ok (.iload_n 1, 1) := by decide +kernel
theorem zd44_2 : decode zxm44.2.1 2 = .ok (.invokevirtual 91, 3) := by decide +kernel
theorem zd44_5 : decode zxm44.2.1 5 = .ok (.aload_n 0, 1) := by decide +kernel
theorem zd44_6 : decode zxm44.2.1 6 = .ok (.getfield 18, 3) := by decide +kernel
theorem zd44_9 : decode zxm44.2.1 9 = .ok (.ifCond .ne 125, 3) := by decide +kernel
theorem zd44_12 : decode zxm44.2.1 12 = .ok (.aload_n 0, 1) := by decide +kernel
theorem zd44_13 : decode zxm44.2.1 13 = .ok (.getfield 15, 3) := by decide +kernel
theorem zd44_16 : decode zxm44.2.1 16 = .ok (.aload_n 0, 1) := by decide +kernel
theorem zd44_17 : decode zxm44.2.1 17 = .ok (.getfield 9, 3) := by decide +kernel
theorem zd44_20 : decode zxm44.2.1 20 = .ok (.if_icmp .ge 114, 3) := by decide +kernel
theorem zd44_23 : decode zxm44.2.1 23 = .ok (.aload_n 0, 1) := by decide +kernel
theorem zd44_24 : decode zxm44.2.1 24 = .ok (.getfield 21, 3) := by decide +kernel
theorem zd44_27 : decode zxm44.2.1 27 = .ok (.aload_n 0, 1) := by decide +kernel
theorem zd44_28 : decode zxm44.2.1 28 = .ok (.getfield 15, 3) := by decide +kernel
theorem zd44_31 : decode zxm44.2.1 31 = .ok (.iaload, 1) := by decide +kernel
theorem zd44_32 : decode zxm44.2.1 32 = .ok (.bipush 42, 2) := by decide +kernel
theorem zd44_34 : decode zxm44.2.1 34 = .ok (.if_icmp .eq 31, 3) := by decide +kernel
theorem zd44_37 : decode zxm44.2.1 37 = .ok (.aload_n 0, 1) := by decide +kernel
theorem zd44_38 : decode zxm44.2.1 38 = .ok (.getfield 21, 3) := by decide +kernel
theorem zd44_41 : decode zxm44.2.1 41 = .ok (.aload_n 0, 1) := by decide +kernel
theorem zd44_42 : decode zxm44.2.1 42 = .ok (.getfield 15, 3) := by decide +kernel
theorem zd44_45 : decode zxm44.2.1 45 = .ok (.iaload, 1) := by decide +kernel
theorem zd44_46 : decode zxm44.2.1 46 = .ok (.bipush 47, 2) := by decide +kernel
theorem zd44_48 : decode zxm44.2.1 48 = .ok (.if_icmp .eq 17, 3) := by decide +kernel
theorem zd44_51 : decode zxm44.2.1 51 = .ok (.aload_n 0, 1) := by decide +kernel
theorem zd44_52 : decode zxm44.2.1 52 = .ok (.getfield 21, 3) := by decide +kernel
theorem zd44_55 : decode zxm44.2.1 55 = .ok (.aload_n 0, 1) := by decide +kernel
theorem zd44_56 : decode zxm44.2.1 56 = .ok (.getfield 15, 3) := by decide +kernel
theorem zd44_59 : decode zxm44.2.1 59 = .ok (.iaload, 1) := by decide +kernel
theorem zd44_60 : decode zxm44.2.1 60 = .ok (.bipush 37, 2) := by decide +kernel
theorem zd44_62 : decode zxm44.2.1 62 = .ok (.if_icmp .ne 72, 3) := by decide +kernel
theorem zd44_65 : decode zxm44.2.1 65 = .ok (.aload_n 0, 1) := by decide +kernel
theorem zd44_66 : decode zxm44.2.1 66 = .ok (.getfield 21, 3) := by decide +kernel
theorem zd44_69 : decode zxm44.2.1 69 = .ok (.aload_n 0, 1) := by decide +kernel
theorem zd44_70 : decode zxm44.2.1 70 = .ok (.getfield 15, 3) := by decide +kernel
theorem zd44_73 : decode zxm44.2.1 73 = .ok (.iaload, 1) := by decide +kernel
theorem zd44_74 : decode zxm44.2.1 74 = .ok (.bipush 42, 2) := by decide +kernel
theorem zd44_76 : decode zxm44.2.1 76 = .ok (.if_icmp .ne 8, 3) := by decide +kernel
theorem zd44_79 : decode zxm44.2.1 79 = .ok (.bipush 7, 2) := by decide +kernel
theorem zd44_81 : decode zxm44.2.1 81 = .ok (.goto 24, 3) := by decide +kernel
theorem zd44_84 : decode zxm44.2.1 84 = .ok (.aload_n 0, 1) := by decide +kernel
theorem zd44_85 : decode zxm44.2.1 85 = .ok (.getfield 21, 3) := by decide +kernel
theorem zd44_88 : decode zxm44.2.1 88 = .ok (.aload_n 0, 1) := by decide +kernel
theorem zd44_89 : decode zxm44.2.1 89 = .ok (.getfield 15, 3) := by decide +kernel
theorem zd44_92 : decode zxm44.2.1 92 = .ok (.iaload, 1) := by decide +kernel
theorem zd44_93 : decode zxm44.2.1 93 = .ok (.bipush 47, 2) := by decide +kernel
theorem zd44_95 : decode zxm44.2.1 95 = .ok (.if_icmp .ne 8, 3) := by decide +kernel
theorem zd44_98 : decode zxm44.2.1 98 = .ok (.bipush 8, 2) := by decide +kernel
theorem zd44_100 : decode zxm44.2.1 100 = .ok (.goto 5, 3) := by decide +kernel
theorem zd44_103 : decode zxm44.2.1 103 = .ok (.bipush 9, 2) := by decide +kernel
theorem zd44_105 : decode zxm44.2.1 105 = .ok (.istore_n 2, 1) := by decide +kernel
theorem zd44_106 : decode zxm44.2.1 106 = .ok (.aload_n 0, 1) := by decide +kernel
theorem zd44_107 : decode zxm44.2.1 107 = .ok (.dup, 1) := by decide +kernel
theorem zd44_108 : decode zxm44.2.1 108 = .ok (.getfield 15, 3) := by decide +kernel
theorem zd44_111 : decode zxm44.2.1 111 = .ok (.iconst 1, 1) := by decide +kernel
theorem zd44_112 : decode zxm44.2.1 112 = .ok (.iadd, 1) := by decide +kernel
theorem zd44_113 : decode zxm44.2.1 113 = .ok (.putfield 15, 3) := by decide +kernel
theorem zd44_116 : decode zxm44.2.1 116 = .ok (.aload_n 0, 1) := by decide +kernel
theorem zd44_117 : decode zxm44.2.1 117 = .ok (.iload_n 1, 1) := by decide +kernel
theorem zd44_118 : decode zxm44.2.1 118 = .ok (.invokevirtual 91, 3) := by decide +kernel
theorem zd44_121 : decode zxm44.2.1 121 = .ok (.aload_n 0, 1) := by decide +kernel
theorem zd44_122 : decode zxm44.2.1 122 = .ok (.getfield 25, 3) := by decide +kernel
theorem zd44_125 : decode zxm44.2.1 125 = .ok (.iload_n 2, 1) := by decide +kernel
theorem zd44_126 : decode zxm44.2.1 126 = .ok (.iconst 0, 1) := by decide +kernel
theorem zd44_127 : decode zxm44.2.1 127 = .ok (.invokevirtual 76, 3) := by decide +kernel
theorem zd44_130 : decode zxm44.2.1 130 = .ok (.pop, 1) := by decide +kernel
theorem zd44_131 : decode zxm44.2.1 131 = .ok (.goto (-126), 3) := by decide +kernel
theorem zd44_134 : decode zxm44.2.1 134 = .ok (.return_, 1) := by decide +kernel
theorem zh44  {k : Nat} (hF : zr_OK zxm45 (6 + 3 * k) k) : zr_OK zxm44 (7 + 3 * k) k := fun a len fl st o text kinds vals Fr Gr => zn_meth (K := zkR) (FT := z_FT) (MT := z_MT) (n := 2) zxp44 (z_ks3 _ (fun _ h => List.mem_cons_of_mem _ h) _ _ _ _ (fun j r h _ => by cases h)) (fun _ _ => zs_KX_p) (by decide +kernel) (fun va F G h => by obtain ⟨rfl, _⟩ := h; rfl) rfl fun good va F G hB hret hvret hP => by
  obtain ⟨rfl, rfl, rfl, hs, ho1, ho2, ho3⟩ := hP
  obtain ⟨⟨b1, b2, b3, b4⟩, b5⟩ := hs
  have hs : zr_s a len st kinds vals := ⟨⟨b1, b2, b3, b4⟩, b5⟩
  have key : ∀ (n : Nat) (x : zNV) (a1 fl1 st1 : Int) (kinds1 vals1 : Int → Int), zr_s a1 len st1 kinds1 vals1 → zr_r a st kinds a1 st1 kinds1 → len - a1 < n → good 5 [.inr 0, .inl o, x] [] (a1 :: len :: fl1 :: st1 :: Fr) (text :: kinds1 :: vals1 :: Gr) := by
    intro n
    induction n with
    | zero =>
      intro x a1 fl1 st1 kinds1 vals1 s1 r1 hn
      have := s1.1
      exfalso; omega
    | succ n ih =>
      intro x a1 fl1 st1 kinds1 vals1 s1 r1 hn
      obtain ⟨c1, c2, c3, c4⟩ := s1.1
      have body : ∀ kd, 2 ≤ kd → kd ≤ 12 → a1 < len → good 105 [.inr 0, .inl o, x] [.inl kd] (a1 :: len :: fl1 :: st1 :: Fr) (text :: kinds1 :: vals1 :: Gr) := by
        intro kd d1 d2 hlt
        refine zn_ist hB zd44_105 rfl rfl rfl ?_
        refine zn_ald hB zd44_106 rfl rfl rfl ?_
        refine zn_dup hB zd44_107 ?_
        refine zn_getf hB zd44_108 rfl rfl (fun q108 r108 => ?_)
        refine zn_con hB zd44_111 rfl ?_
        refine zn_iadd hB zd44_112 (by omega) (by omega) ?_
        refine zn_putf hB zd44_113 rfl rfl (fun h => by cases h) rfl ?_
        refine zn_ald hB zd44_116 rfl rfl rfl ?_
        refine zn_ild hB zd44_117 rfl rfl ?_
        refine zn_iv1 hB (hF (a1 + 1) len (fl1) (st1) (o) text (kinds1) (vals1) _ _) zd44_118 zxt45 (zr_hc rfl rfl rfl (show 6 + 3 * k + 1 ≤ 7 + 3 * k by omega) (show 8 + (4 + 11) + 60 * (6 + 3 * k) ≤ 60 * (7 + 3 * k) by omega)) ⟨rfl, rfl, rfl, zr_s_on s1 (by omega) (by omega), by omega, by omega, by omega⟩ (fun r118 F118 G118 hq118 => ?_)
        obtain ⟨rfl, a2, fl2, st2, kinds2, vals2, rfl, rfl, s2, r2⟩ := hq118
        have hz := zr_step (kd := kd) (v := 0) s1 s2 r2 (by omega) (by omega)
        obtain ⟨z1, z2, z3⟩ := hz
        have e2 := s2.1
        refine zn_ald hB zd44_121 rfl rfl rfl ?_
        refine zn_getr hB zd44_122 rfl ?_
        refine zn_ild hB zd44_125 rfl rfl ?_
        refine zn_con hB zd44_126 rfl ?_
        refine zn_iv2 hB (zh49 (st := st2) (kinds := kinds2) (vals := vals2)) zd44_127 zxt49 (zr_hc rfl rfl rfl (show 0 + 1 ≤ 7 + 3 * k by omega) (show 8 + (3 + 11) + 60 * (0) ≤ 60 * (7 + 3 * k) by omega)) ⟨rfl, rfl, rfl, by omega, by omega⟩ (fun r127 F127 G127 hq127 => ?_)
        obtain ⟨rfl, rfl, rfl⟩ := hq127
        refine zn_pop hB zd44_130 ?_
        refine zn_goto hB zd44_131 rfl ?_
        exact ih _ _ _ _ _ _ z2 (zr_r_tr r1 z3) (by have := r2.1; omega)
      refine zn_ald hB zd44_5 rfl rfl rfl ?_
      refine zn_getf hB zd44_6 rfl rfl (fun q6 r6 => ?_)
      refine zn_zne hB zd44_9 rfl (fun h9 => ?_) (fun h9 => ?_)
      · exact hvret _ _ _ _ zd44_134 trivial ⟨rfl, _, _, _, _, _, rfl, rfl, s1, r1⟩
      · refine zn_ald hB zd44_12 rfl rfl rfl ?_
        refine zn_getf hB zd44_13 rfl rfl (fun q13 r13 => ?_)
        refine zn_ald hB zd44_16 rfl rfl rfl ?_
        refine zn_getf hB zd44_17 rfl rfl (fun q17 r17 => ?_)
        refine zn_cge hB zd44_20 rfl (fun h20 => ?_) (fun h20 => ?_)
        · exact hvret _ _ _ _ zd44_134 trivial ⟨rfl, _, _, _, _, _, rfl, rfl, s1, r1⟩
        · refine zn_ald hB zd44_23 rfl rfl rfl ?_
          refine zn_getr hB zd44_24 rfl ?_
          refine zn_ald hB zd44_27 rfl rfl rfl ?_
          refine zn_getf hB zd44_28 rfl rfl (fun q28 r28 => ?_)
          refine zn_iald hB zd44_31 rfl rfl (by omega) (by omega) (fun q31 r31 => ?_)
          refine zn_con hB zd44_32 rfl ?_
          refine zn_ceq hB zd44_34 rfl (fun h34 => ?_) (fun h34 => ?_)
          · refine zn_ald hB zd44_65 rfl rfl rfl ?_
            refine zn_getr hB zd44_66 rfl ?_
            refine zn_ald hB zd44_69 rfl rfl rfl ?_
            refine zn_getf hB zd44_70 rfl rfl (fun q70 r70 => ?_)
            refine zn_iald hB zd44_73 rfl rfl (by omega) (by omega) (fun q73 r73 => ?_)
            refine zn_con hB zd44_74 rfl ?_
            refine zn_cne hB zd44_76 rfl (fun h76 => ?_) (fun h76 => ?_)
            · refine zn_ald hB zd44_84 rfl rfl rfl ?_
              refine zn_getr hB zd44_85 rfl ?_
              refine zn_ald hB zd44_88 rfl rfl rfl ?_
              refine zn_getf hB zd44_89 rfl rfl (fun q89 r89 => ?_)
              refine zn_iald hB zd44_92 rfl rfl (by omega) (by omega) (fun q92 r92 => ?_)
              refine zn_con hB zd44_93 rfl ?_
              refine zn_cne hB zd44_95 rfl (fun h95 => ?_) (fun h95 => ?_)
              · refine zn_con hB zd44_103 rfl ?_
                exact body _ (by omega) (by omega) (by omega)
              · refine zn_con hB zd44_98 rfl ?_
                refine zn_goto hB zd44_100 rfl ?_
                exact body _ (by omega) (by omega) (by omega)
            · refine zn_con hB zd44_79 rfl ?_
              refine zn_goto hB zd44_81 rfl ?_
              exact body _ (by omega) (by omega) (by omega)
          · refine zn_ald hB zd44_37 rfl rfl rfl ?_
            refine zn_getr hB zd44_38 rfl ?_
            refine zn_ald hB zd44_41 rfl rfl rfl ?_
            refine zn_getf hB zd44_42 rfl rfl (fun q42 r42 => ?_)
            refine zn_iald hB zd44_45 rfl rfl (by omega) (by omega) (fun q45 r45 => ?_)
            refine zn_con hB zd44_46 rfl ?_
            refine zn_ceq hB zd44_48 rfl (fun h48 => ?_) (fun h48 => ?_)
            · refine zn_ald hB zd44_65 rfl rfl rfl ?_
              refine zn_getr hB zd44_66 rfl ?_
              refine zn_ald hB zd44_69 rfl rfl rfl ?_
              refine zn_getf hB zd44_70 rfl rfl (fun q70 r70 => ?_)
              refine zn_iald hB zd44_73 rfl rfl (by omega) (by omega) (fun q73 r73 => ?_)
              refine zn_con hB zd44_74 rfl ?_
              refine zn_cne hB zd44_76 rfl (fun h76 => ?_) (fun h76 => ?_)
              · refine zn_ald hB zd44_84 rfl rfl rfl ?_
                refine zn_getr hB zd44_85 rfl ?_
                refine zn_ald hB zd44_88 rfl rfl rfl ?_
                refine zn_getf hB zd44_89 rfl rfl (fun q89 r89 => ?_)
                refine zn_iald hB zd44_92 rfl rfl (by omega) (by omega) (fun q92 r92 => ?_)
                refine zn_con hB zd44_93 rfl ?_
                refine zn_cne hB zd44_95 rfl (fun h95 => ?_) (fun h95 => ?_)
                · refine zn_con hB zd44_103 rfl ?_
                  exact body _ (by omega) (by omega) (by omega)
                · refine zn_con hB zd44_98 rfl ?_
                  refine zn_goto hB zd44_100 rfl ?_
                  exact body _ (by omega) (by omega) (by omega)
              · refine zn_con hB zd44_79 rfl ?_
                refine zn_goto hB zd44_81 rfl ?_
                exact body _ (by omega) (by omega) (by omega)
            · refine zn_ald hB zd44_51 rfl rfl rfl ?_
              refine zn_getr hB zd44_52 rfl ?_
              refine zn_ald hB zd44_55 rfl rfl rfl ?_
              refine zn_getf hB zd44_56 rfl rfl (fun q56 r56 => ?_)
              refine zn_iald hB zd44_59 rfl rfl (by omega) (by omega) (fun q59 r59 => ?_)
              refine zn_con hB zd44_60 rfl ?_
              refine zn_cne hB zd44_62 rfl (fun h62 => ?_) (fun h62 => ?_)
              · exact hvret _ _ _ _ zd44_134 trivial ⟨rfl, _, _, _, _, _, rfl, rfl, s1, r1⟩
              · refine zn_ald hB zd44_65 rfl rfl rfl ?_
                refine zn_getr hB zd44_66 rfl ?_
                refine zn_ald hB zd44_69 rfl rfl rfl ?_
                refine zn_getf hB zd44_70 rfl rfl (fun q70 r70 => ?_)
                refine zn_iald hB zd44_73 rfl rfl (by omega) (by omega) (fun q73 r73 => ?_)
                refine zn_con hB zd44_74 rfl ?_
                refine zn_cne hB zd44_76 rfl (fun h76 => ?_) (fun h76 => ?_)
                · refine zn_ald hB zd44_84 rfl rfl rfl ?_
                  refine zn_getr hB zd44_85 rfl ?_
                  refine zn_ald hB zd44_88 rfl rfl rfl ?_
                  refine zn_getf hB zd44_89 rfl rfl (fun q89 r89 => ?_)
                  refine zn_iald hB zd44_92 rfl rfl (by omega) (by omega) (fun q92 r92 => ?_)
                  refine zn_con hB zd44_93 rfl ?_
                  refine zn_cne hB zd44_95 rfl (fun h95 => ?_) (fun h95 => ?_)
                  · refine zn_con hB zd44_103 rfl ?_
                    exact body _ (by omega) (by omega) (by omega)
                  · refine zn_con hB zd44_98 rfl ?_
                    refine zn_goto hB zd44_100 rfl ?_
                    exact body _ (by omega) (by omega) (by omega)
                · refine zn_con hB zd44_79 rfl ?_
                  refine zn_goto hB zd44_81 rfl ?_
                  exact body _ (by omega) (by omega) (by omega)
  refine zn_ald hB zd44_0 rfl rfl rfl ?_
  refine zn_ild hB zd44_1 rfl rfl ?_
  refine zn_iv1 hB (hF (a) len (fl) (st) (o) text (kinds) (vals) _ _) zd44_2 zxt45 (zr_hc rfl rfl rfl (show 6 + 3 * k + 1 ≤ 7 + 3 * k by omega) (show 8 + (4 + 11) + 60 * (6 + 3 * k) ≤ 60 * (7 + 3 * k) by omega)) ⟨rfl, rfl, rfl, hs, by omega, by omega, by omega⟩ (fun r2 F2 G2 hq2 => ?_)
  obtain ⟨rfl, a2, fl2, st2, kinds2, vals2, rfl, rfl, s2, r2⟩ := hq2
  exact key ((len - a2).toNat + 1) _ _ _ _ _ _ s2 r2 (by omega)
theorem zd43_0 : decode zxm43.2.1 0 = .ok (.aload_n 0, 1) := by decide +kernel
theorem zd43_1 : decode zxm43.2.1 1 = .ok (.iload_n 1, 1) := by decide +kernel
theorem zd43_2 : decode zxm43.2.1 2 = .ok (.invokevirtual 88, 3) := by decide +kernel
theorem zd43_5 : decode zxm43.2.1 5 = .ok (.aload_n 0, 1) := by decide +kernel
theorem zd43_6 : decode zxm43.2.1 6 = .ok (.getfield 18, 3) := by decide +kernel
theorem zd43_9 : decode zxm43.2.1 9 = .ok (.ifCond .ne 91, 3) := by decide +kernel
theorem zd43_12 : decode zxm43.2.1 12 = .ok (.aload_n 0, 1) := by decide +kernel
theorem zd43_13 : decode zxm43.2.1 13 = .ok (.getfield 15, 3) := by decide +kernel
theorem zd43_16 : decode zxm43.2.1 16 = .ok (.aload_n 0, 1) := by decide +kernel
theorem zd43_17 : decode zxm43.2.1 17 = .ok (.getfield 9, 3) := by decide +kernel
theorem zd43_20 : decode zxm43.2.1 20 = .ok (.if_icmp .ge 80, 3) := by decide +kernel
theorem zd43_23 : decode zxm43.2.1 23 = .ok (.aload_n 0, 1) := by decide +kernel
theorem zd43_24 : decode zxm43.2.1 24 = .ok (.getfield 21, 3) := by decide +kernel
theorem zd43_27 : decode zxm43.2.1 27 = .ok (.aload_n 0, 1) := by decide +kernel
theorem zd43_28 : decode zxm43.2.1 28 = .ok (.getfield 15, 3) := by decide +kernel
theorem zd43_31 : decode zxm43.2.1 31 = .ok (.iaload, 1) := by decide +kernel
theorem zd43_32 : decode zxm43.2.1 32 = .ok (.bipush 43, 2) := by decide +kernel
theorem zd43_34 : decode zxm43.2.1 34 = .ok (.if_icmp .eq 17, 3) := by decide +kernel
theorem zd43_37 : decode zxm43.2.1 37 = .ok (.aload_n 0, 1) := by decide +kernel
theorem zd43_38 : decode zxm43.2.1 38 = .ok (.getfield 21, 3) := by decide +kernel
theorem zd43_41 : decode zxm43.2.1 41 = .ok (.aload_n 0, 1) := by decide +kernel
theorem zd43_42 : decode zxm43.2.1 42 = .ok (.getfield 15, 3) := by decide +kernel
theorem zd43_45 : decode zxm43.2.1 45 = .ok (.iaload, 1) := by decide +kernel
theorem zd43_46 : decode zxm43.2.1 46 = .ok (.bipush 45, 2) := by decide +kernel
theorem zd43_48 : decode zxm43.2.1 48 = .ok (.if_icmp .ne 52, 3) := by decide +kernel
theorem zd43_51 : decode zxm43.2.1 51 = .ok (.aload_n 0, 1) := by decide +kernel
theorem zd43_52 : decode zxm43.2.1 52 = .ok (.getfield 21, 3) := by decide +kernel
theorem zd43_55 : decode zxm43.2.1 55 = .ok (.aload_n 0, 1) := by decide +kernel
theorem zd43_56 : decode zxm43.2.1 56 = .ok (.getfield 15, 3) := by decide +kernel
theorem zd43_59 : decode zxm43.2.1 59 = .ok (.iaload, 1) := by decide +kernel
theorem zd43_60 : decode zxm43.2.1 60 = .ok (.bipush 43, 2) := by decide +kernel
theorem zd43_62 : decode zxm43.2.1 62 = .ok (.if_icmp .ne 7, 3) := by decide +kernel
theorem zd43_65 : decode zxm43.2.1 65 = .ok (.iconst 5, 1) := by decide +kernel
theorem zd43_66 : decode zxm43.2.1 66 = .ok (.goto 5, 3) := by decide +kernel
theorem zd43_69 : decode zxm43.2.1 69 = .ok (.bipush 6, 2) := by decide +kernel
theorem zd43_71 : decode zxm43.2.1 71 = .ok (.istore_n 2, 1) := by decide +kernel
theorem zd43_72 : decode zxm43.2.1 72 = .ok (.aload_n 0, 1) := by decide +kernel
theorem zd43_73 : decode zxm43.2.1 73 = .ok (.dup, 1) := by decide +kernel
theorem zd43_74 : decode zxm43.2.1 74 = .ok (.getfield 15, 3) := by decide +kernel
theorem zd43_77 : decode zxm43.2.1 77 = .ok (.iconst 1, 1) := by decide +kernel
theorem zd43_78 : decode zxm43.2.1 78 = .ok (.iadd, 1) := by decide +kernel
theorem zd43_79 : decode zxm43.2.1 79 = .ok (.putfield 15, 3) := by decide +kernel
theorem zd43_82 : decode zxm43.2.1 82 = .ok (.aload_n 0, 1) := by decide +kernel
theorem zd43_83 : decode zxm43.2.1 83 = .ok (.iload_n 1, 1) := by decide +kernel
theorem zd43_84 : decode zxm43.2.1 84 = .ok (.invokevirtual 88, 3) := by decide +kernel
theorem zd43_87 : decode zxm43.2.1 87 = .ok (.aload_n 0, 1) := by decide +kernel
theorem zd43_88 : decode zxm43.2.1 88 = .ok (.getfield 25, 3) := by decide +kernel
theorem zd43_91 : decode zxm43.2.1 91 = .ok (.iload_n 2, 1) := by decide +kernel
theorem zd43_92 : decode zxm43.2.1 92 = .ok (.iconst 0, 1) := by decide +kernel
theorem zd43_93 : decode zxm43.2.1 93 = .ok (.invokevirtual 76, 3) := by decide +kernel
theorem zd43_96 : decode zxm43.2.1 96 = .ok (.pop, 1) := by decide +kernel
theorem zd43_97 : decode zxm43.2.1 97 = .ok (.goto (-92), 3) := by decide +kernel
theorem zd43_100 : decode zxm43.2.1 100 = .ok (.return_, 1) := by decide +kernel
theorem zh43  {k : Nat} (hT : zr_OK zxm44 (7 + 3 * k) k) : zr_OK zxm43 (8 + 3 * k) k := fun a len fl st o text kinds vals Fr Gr => zn_meth (K := zkR) (FT := z_FT) (MT := z_MT) (n := 2) zxp43 (z_ks3 _ (fun _ h => List.mem_cons_of_mem _ h) _ _ _ _ (fun j r h _ => by cases h)) (fun _ _ => zs_KX_p) (by decide +kernel) (fun va F G h => by obtain ⟨rfl, _⟩ := h; rfl) rfl fun good va F G hB hret hvret hP => by
  obtain ⟨rfl, rfl, rfl, hs, ho1, ho2, ho3⟩ := hP
  obtain ⟨⟨b1, b2, b3, b4⟩, b5⟩ := hs
  have hs : zr_s a len st kinds vals := ⟨⟨b1, b2, b3, b4⟩, b5⟩
  have key : ∀ (n : Nat) (x : zNV) (a1 fl1 st1 : Int) (kinds1 vals1 : Int → Int), zr_s a1 len st1 kinds1 vals1 → zr_r a st kinds a1 st1 kinds1 → len - a1 < n → good 5 [.inr 0, .inl o, x] [] (a1 :: len :: fl1 :: st1 :: Fr) (text :: kinds1 :: vals1 :: Gr) := by
    intro n
    induction n with
    | zero =>
      intro x a1 fl1 st1 kinds1 vals1 s1 r1 hn
      have := s1.1
      exfalso; omega
    | succ n ih =>
      intro x a1 fl1 st1 kinds1 vals1 s1 r1 hn
      obtain ⟨c1, c2, c3, c4⟩ := s1.1
      have body : ∀ kd, 2 ≤ kd → kd ≤ 12 → a1 < len → good 71 [.inr 0, .inl o, x] [.inl kd] (a1 :: len :: fl1 :: st1 :: Fr) (text :: kinds1 :: vals1 :: Gr) := by
        intro kd d1 d2 hlt
        refine zn_ist hB zd43_71 rfl rfl rfl ?_
        refine zn_ald hB zd43_72 rfl rfl rfl ?_
        refine zn_dup hB zd43_73 ?_
        refine zn_getf hB zd43_74 rfl rfl (fun q74 r74 => ?_)
        refine zn_con hB zd43_77 rfl ?_
        refine zn_iadd hB zd43_78 (by omega) (by omega) ?_
        refine zn_putf hB zd43_79 rfl rfl (fun h => by cases h) rfl ?_
        refine zn_ald hB zd43_82 rfl rfl rfl ?_
        refine zn_ild hB zd43_83 rfl rfl ?_
        refine zn_iv1 hB (hT (a1 + 1) len (fl1) (st1) (o) text (kinds1) (vals1) _ _) zd43_84 zxt44 (zr_hc rfl rfl rfl (show 7 + 3 * k + 1 ≤ 8 + 3 * k by omega) (show 8 + (3 + 11) + 60 * (7 + 3 * k) ≤ 60 * (8 + 3 * k) by omega)) ⟨rfl, rfl, rfl, zr_s_on s1 (by omega) (by omega), by omega, by omega, by omega⟩ (fun r84 F84 G84 hq84 => ?_)
        obtain ⟨rfl, a2, fl2, st2, kinds2, vals2, rfl, rfl, s2, r2⟩ := hq84
        have hz := zr_step (kd := kd) (v := 0) s1 s2 r2 (by omega) (by omega)
        obtain ⟨z1, z2, z3⟩ := hz
        have e2 := s2.1
        refine zn_ald hB zd43_87 rfl rfl rfl ?_
        refine zn_getr hB zd43_88 rfl ?_
        refine zn_ild hB zd43_91 rfl rfl ?_
        refine zn_con hB zd43_92 rfl ?_
        refine zn_iv2 hB (zh49 (st := st2) (kinds := kinds2) (vals := vals2)) zd43_93 zxt49 (zr_hc rfl rfl rfl (show 0 + 1 ≤ 8 + 3 * k by omega) (show 8 + (3 + 11) + 60 * (0) ≤ 60 * (8 + 3 * k) by omega)) ⟨rfl, rfl, rfl, by omega, by omega⟩ (fun r93 F93 G93 hq93 => ?_)
        obtain ⟨rfl, rfl, rfl⟩ := hq93
        refine zn_pop hB zd43_96 ?_
        refine zn_goto hB zd43_97 rfl ?_
        exact ih _ _ _ _ _ _ z2 (zr_r_tr r1 z3) (by have := r2.1; omega)
      refine zn_ald hB zd43_5 rfl rfl rfl ?_
      refine zn_getf hB zd43_6 rfl rfl (fun q6 r6 => ?_)
      refine zn_zne hB zd43_9 rfl (fun h9 => ?_) (fun h9 => ?_)
      · exact hvret _ _ _ _ zd43_100 trivial ⟨rfl, _, _, _, _, _, rfl, rfl, s1, r1⟩
      · refine zn_ald hB zd43_12 rfl rfl rfl ?_
        refine zn_getf hB zd43_13 rfl rfl (fun q13 r13 => ?_)
        refine zn_ald hB zd43_16 rfl rfl rfl ?_
        refine zn_getf hB zd43_17 rfl rfl (fun q17 r17 => ?_)
        refine zn_cge hB zd43_20 rfl (fun h20 => ?_) (fun h20 => ?_)
        · exact hvret _ _ _ _ zd43_100 trivial ⟨rfl, _, _, _, _, _, rfl, rfl, s1, r1⟩
        · refine zn_ald hB zd43_23 rfl rfl rfl ?_
          refine zn_getr hB zd43_24 rfl ?_
          refine zn_ald hB zd43_27 rfl rfl rfl ?_
          refine zn_getf hB zd43_28 rfl rfl (fun q28 r28 => ?_)
          refine zn_iald hB zd43_31 rfl rfl (by omega) (by omega) (fun q31 r31 => ?_)
          refine zn_con hB zd43_32 rfl ?_
          refine zn_ceq hB zd43_34 rfl (fun h34 => ?_) (fun h34 => ?_)
          · refine zn_ald hB zd43_51 rfl rfl rfl ?_
            refine zn_getr hB zd43_52 rfl ?_
            refine zn_ald hB zd43_55 rfl rfl rfl ?_
            refine zn_getf hB zd43_56 rfl rfl (fun q56 r56 => ?_)
            refine zn_iald hB zd43_59 rfl rfl (by omega) (by omega) (fun q59 r59 => ?_)
            refine zn_con hB zd43_60 rfl ?_
            refine zn_cne hB zd43_62 rfl (fun h62 => ?_) (fun h62 => ?_)
            · refine zn_con hB zd43_69 rfl ?_
              exact body _ (by omega) (by omega) (by omega)
            · refine zn_con hB zd43_65 rfl ?_
              refine zn_goto hB zd43_66 rfl ?_
              exact body _ (by omega) (by omega) (by omega)
          · refine zn_ald hB zd43_37 rfl rfl rfl ?_
            refine zn_getr hB zd43_38 rfl ?_
            refine zn_ald hB zd43_41 rfl rfl rfl ?_
            refine zn_getf hB zd43_42 rfl rfl (fun q42 r42 => ?_)
            refine zn_iald hB zd43_45 rfl rfl (by omega) (by omega) (fun q45 r45 => ?_)
            refine zn_con hB zd43_46 rfl ?_
            refine zn_cne hB zd43_48 rfl (fun h48 => ?_) (fun h48 => ?_)
            · exact hvret _ _ _ _ zd43_100 trivial ⟨rfl, _, _, _, _, _, rfl, rfl, s1, r1⟩
            · refine zn_ald hB zd43_51 rfl rfl rfl ?_
              refine zn_getr hB zd43_52 rfl ?_
              refine zn_ald hB zd43_55 rfl rfl rfl ?_
              refine zn_getf hB zd43_56 rfl rfl (fun q56 r56 => ?_)
              refine zn_iald hB zd43_59 rfl rfl (by omega) (by omega) (fun q59 r59 => ?_)
              refine zn_con hB zd43_60 rfl ?_
              refine zn_cne hB zd43_62 rfl (fun h62 => ?_) (fun h62 => ?_)
              · refine zn_con hB zd43_69 rfl ?_
                exact body _ (by omega) (by omega) (by omega)
              · refine zn_con hB zd43_65 rfl ?_
                refine zn_goto hB zd43_66 rfl ?_
                exact body _ (by omega) (by omega) (by omega)
  refine zn_ald hB zd43_0 rfl rfl rfl ?_
  refine zn_ild hB zd43_1 rfl rfl ?_
  refine zn_iv1 hB (hT (a) len (fl) (st) (o) text (kinds) (vals) _ _) zd43_2 zxt44 (zr_hc rfl rfl rfl (show 7 + 3 * k + 1 ≤ 8 + 3 * k by omega) (show 8 + (3 + 11) + 60 * (7 + 3 * k) ≤ 60 * (8 + 3 * k) by omega)) ⟨rfl, rfl, rfl, hs, by omega, by omega, by omega⟩ (fun r2 F2 G2 hq2 => ?_)
  obtain ⟨rfl, a2, fl2, st2, kinds2, vals2, rfl, rfl, s2, r2⟩ := hq2
  exact key ((len - a2).toNat + 1) _ _ _ _ _ _ s2 r2 (by omega)
theorem zr_sums (hix : zr_ix) : ∀ k : Nat, zr_OK zxm45 (6 + 3 * k) k ∧ zr_OK zxm44 (7 + 3 * k) k ∧ zr_OK zxm43 (8 + 3 * k) k := by
  intro k
  induction k with
  | zero =>
    have h1 := zh45 hix (k := 0) (fun k' h => absurd h (by omega))
    exact ⟨h1, zh44 h1, zh43 (zh44 h1)⟩
  | succ k ih =>
    have h1 := zh45 hix (k := k + 1) (fun k' h => by cases h; exact ih.2.2)
    exact ⟨h1, zh44 h1, zh43 (zh44 h1)⟩
end ZLAWR1
