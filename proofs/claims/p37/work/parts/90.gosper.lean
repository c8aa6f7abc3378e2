/-! The next set with as many bits, within a method over types. -/
theorem zb_dummy0 : True := trivial
theorem zd313_72 : decode zxm313.2.1 72 = .ok (.iload 5, 2) := by decide +kernel
theorem zd313_74 : decode zxm313.2.1 74 = .ok (.iload 5, 2) := by decide +kernel
theorem zd313_76 : decode zxm313.2.1 76 = .ok (.ineg, 1) := by decide +kernel
theorem zd313_77 : decode zxm313.2.1 77 = .ok (.iand, 1) := by decide +kernel
theorem zd313_78 : decode zxm313.2.1 78 = .ok (.istore 6, 2) := by decide +kernel
theorem zd313_80 : decode zxm313.2.1 80 = .ok (.iload 5, 2) := by decide +kernel
theorem zd313_82 : decode zxm313.2.1 82 = .ok (.iload 6, 2) := by decide +kernel
theorem zd313_84 : decode zxm313.2.1 84 = .ok (.iadd, 1) := by decide +kernel
theorem zd313_85 : decode zxm313.2.1 85 = .ok (.istore 7, 2) := by decide +kernel
theorem zd313_87 : decode zxm313.2.1 87 = .ok (.iload 7, 2) := by decide +kernel
theorem zd313_89 : decode zxm313.2.1 89 = .ok (.iload 5, 2) := by decide +kernel
theorem zd313_91 : decode zxm313.2.1 91 = .ok (.iload 7, 2) := by decide +kernel
theorem zd313_93 : decode zxm313.2.1 93 = .ok (.ixor, 1) := by decide +kernel
theorem zd313_94 : decode zxm313.2.1 94 = .ok (.iload 6, 2) := by decide +kernel
theorem zd313_96 : decode zxm313.2.1 96 = .ok (.idiv, 1) := by decide +kernel
theorem zd313_97 : decode zxm313.2.1 97 = .ok (.iconst 2, 1) := by decide +kernel
theorem zd313_98 : decode zxm313.2.1 98 = .ok (.ishr, 1) := by decide +kernel
theorem zd313_99 : decode zxm313.2.1 99 = .ok (.ior, 1) := by decide +kernel
theorem zd313_100 : decode zxm313.2.1 100 = .ok (.istore 5, 2) := by decide +kernel
theorem zg_walk {good : Nat → List zNV → List zNV → List Int → List (Int → Int) → Prop} {a1 a3 a4 s : Int} {x2 x6 x7 : zNV} {F : List Int} {G : List (Int → Int)} {rm : Nat × Nat} (hB : zn_B z_cl z_FT z_KX z_TB z_MT zy0 zxm313 zkM rm good) (fin : ∀ (t : Int) (y6 y7 : zNV), s + 1 ≤ t → t < 67108864 → good 102 [.inr 0, .inl a1, x2, .inl a3, .inl a4, .inl t, y6, y7] [] F G) (c2 : 1 ≤ s) (c4 : s < 16777216) : good 72 [.inr 0, .inl a1, x2, .inl a3, .inl a4, .inl s, x6, x7] [] F G := by
  refine zn_ild hB zd313_72 rfl rfl ?_
  refine zn_ild hB zd313_74 rfl rfl ?_
  refine zn_neg hB zd313_76 (fun u76 q76 => ?_)
  refine zn_bin hB zd313_77 rfl (fun a40 b40 e40 f40 => ?_)
  have hlow : 1 ≤ (a40 &&& b40).toInt ∧ (a40 &&& b40).toInt ≤ s := by
    have : b40 = -u76 := Int32.toInt_inj.mp f40
    have e : a40 = u76 := Int32.toInt_inj.mp (e40.trans q76.symm)
    rw [this, e]
    have := zg_low (x := u76) (by omega)
    omega
  show good _ _ [.inl (a40 &&& b40).toInt] _ _
  obtain ⟨hl1, hl2⟩ := hlow
  generalize (a40 &&& b40).toInt = low at hl1 hl2 ⊢
  refine zn_ist hB zd313_78 rfl rfl rfl ?_
  refine zn_ild hB zd313_80 rfl rfl ?_
  refine zn_ild hB zd313_82 rfl rfl ?_
  refine zn_iadd hB zd313_84 (by omega) (by omega) ?_
  refine zn_ist hB zd313_85 rfl rfl rfl ?_
  refine zn_ild hB zd313_87 rfl rfl ?_
  refine zn_ild hB zd313_89 rfl rfl ?_
  refine zn_ild hB zd313_91 rfl rfl ?_
  refine zn_bin hB zd313_93 rfl (fun u93 v93 q93 r93 => ?_)
  refine zn_ild hB zd313_94 rfl rfl ?_
  refine zn_bin0 hB zd313_96 rfl (by omega) (fun u96 v96 q96 r96 => ?_)
  refine zn_con hB zd313_97 rfl ?_
  refine zn_bin hB zd313_98 rfl (fun u98 v98 q98 r98 => ?_)
  refine zn_bin hB zd313_99 rfl (fun u99 v99 q99 r99 => ?_)
  have hg := zg_next (o := u99) (q := v98) (u := u93) (v := v93) (t := v96) q99 r98 q93 r93 r96 c2 c4 hl1 hl2 rfl
  have eo : (u99 ||| v99).toInt = (u99 ||| (((u93 ^^^ v93) / v96) >>> (v98 &&& 31))).toInt := by
    have e1 : v99 = u98 >>> (v98 &&& 31) := Int32.toInt_inj.mp r99
    have e2 : u98 = u96 / v96 := Int32.toInt_inj.mp q98
    have e3 : u96 = u93 ^^^ v93 := Int32.toInt_inj.mp q96
    rw [e1, e2, e3]
  refine zn_ist hB zd313_100 rfl rfl rfl ?_
  exact fin (u99 ||| v99).toInt _ _ (by rw [eo]; exact hg.1) (by rw [eo]; exact hg.2)
def zg_hk (g : zSig) : zHk := fun pc st => cond (Nat.beq pc 72) (match z_loc (z_L st) 0, z_loc (z_L st) 1, z_loc (z_L st) 3, z_loc (z_L st) 4, z_loc (z_L st) 5 with
  | some d0, some d1, some d3, some d4, some d5 => (match z_ty st d0, z_get (z_V st) d5 with
    | some _, some (.inl r) => cond (z_isi st d1 && (z_isi st d3 && z_isi st d4) && ((z_ile 1 r.1 && z_ile r.2 16777215) && ((z_S st).isEmpty && (Nat.ble (z_C st).1 (g_mk g).1 && Nat.ble (z_C st).2 (g_mk g).2)))) (some [(102, ([(0, d0), (1, d1), (3, d3), (4, d4), (5, z_n st)], [], z_n st + 1, (z_n st, .inl (r.1 + 1, 67108863)) :: z_V st, z_F st, z_E st, (z_n st, d5, 1) :: z_R st, z_X st, z_C st, z_ph st))]) none
    | _, _ => none)
  | _, _, _, _, _ => none) none
theorem zg_hk_ok {TY : List zTy} {PHI : List (List Nat)} {g : zSig} : z_hok z_TB z_cl TY PHI z_KX zxm313 g (zg_hk g) := by
  intro p l e s m args below meth c Q OB D DA sz raw T0 H0 env0 good hg hx hb hml hD hsz hX pc st Lz hL hall
  unfold zg_hk at hL
  cases hpc : Nat.beq pc 72 with
  | false => rw [hpc] at hL; cases hL
  | true =>
    rw [hpc] at hL
    have hpc := z_beq hpc
    subst hpc
    simp only [cond_true] at hL
    split at hL
    · rename_i d0 d1 d3 d4 d5 h0 h1 h3 h4 h5
      split at hL
      · rename_i t r ht hr
        obtain ⟨hck, rfl⟩ := z_cond hL
        simp only [Bool.and_eq_true] at hck
        obtain ⟨⟨i1, i3, i4⟩, ⟨r1, r2⟩, k2, k6, k7⟩ := hck
        have r1 := z_ile_ok r1
        have r2 := z_ile_ok r2
        refine (hg _ _).mpr fun T H locs env ls stk hs => ?_
        have hm := hs.2.2.2.2.2.2.2.2.2
        have hk := hs.2.2.2.1
        rw [List.isEmpty_iff.mp k2] at hk
        have hk : stk = [] := hk
        subst hk
        obtain ⟨a0, e0, e0'⟩ := z_ty_ok hs.2.2.2.2.1 ht
        obtain ⟨x1, e1⟩ := z_isi_ok i1 hs
        obtain ⟨x3, e3⟩ := z_isi_ok i3 hs
        obtain ⟨x4, e4⟩ := z_isi_ok i4 hs
        obtain ⟨v5, e5, x5, rfl, l5, u5⟩ := z_get_ok hs.2.2.2.2.1 hr
        have hgo := hall _ (List.mem_singleton.mpr rfl)
        obtain ⟨lv, lv1, lv2, lv3⟩ := hs.2.2.1
        have at_ : ∀ {i d : Nat} {v : Value}, z_loc (z_L st) i = some d → env[d]? = some v → (i, v) ∈ lv := by
          intro i d v hi hv
          obtain ⟨w, w1, w2⟩ := lv3 _ (z_loc_mem hi)
          have w1 : env[d]? = some w := w1
          rw [hv] at w1
          cases w1
          exact w2
        have hszH : sz ≤ H.size := Nat.le_trans hsz hm.2.2.2.2.1
        have hXp := zs_KX_p (own := "StarTales$Law") (own2 := "StarTales$LawReader") (tx := "huimrcknsexyd") (k := 48) (k2 := 101) (n := 13) (OB := OB) (sz := sz)
        have hB : zn_B z_cl z_FT z_KX z_TB z_MT zy0 zxm313 zkM (0, 0) (fun pc L S F G => ∀ H1 locs1 ls1 stk1, zn_rep D DA z_cl zy0 (fun c => if c = 0 then a0 else OB (c - 900)) F G H1 → zn_frm D z_cl zy0 (fun c => if c = 0 then a0 else OB (c - 900)) H H1 → va_S (fun q => sz ≤ q) H H1 locs1 → zn_lv zxm313.2.2.1 ls1 (fun c => if c = 0 then a0 else OB (c - 900)) L → zn_st (fun c => if c = 0 then a0 else OB (c - 900)) S stk1 → W p l e (z_room g) s m args below meth c H1 locs1 (z_C st).1 (z_C st).2 Q (F0 m pc ls1 stk1)) :=
          ⟨p, l, e, z_room g, s, m, args, below, meth, c, Q, OB, D, DA, sz, (fun c => if c = 0 then a0 else OB (c - 900)), H, _, (z_C st).1, (z_C st).2, ⟨hx, hb, hml, hD, z_ks13 _ (fun _ h => List.mem_cons_of_mem _ h) _ _ _ _ (fun j r h _ => by cases h)⟩, ⟨hszH, hXp, hXp.2.1 s H0 H hX hm.2.2.2.2.1 hm.2.2.2.2.2.1, Nat.zero_le _, Nat.zero_le _, Nat.le_of_ble_eq_true k6, Nat.le_of_ble_eq_true k7⟩, ⟨by decide, fun a b h => absurd h (Nat.not_lt_zero _), fun a h => absurd h (Nat.not_lt_zero _), fun k => by show (if 900 + k = 0 then a0 else OB (900 + k - 900)) = OB k; rw [if_neg (by omega), Nat.add_sub_cancel_left]⟩, fun _ _ _ _ _ => Iff.rfl⟩
        refine zg_walk (a1 := x1.toInt) (a3 := x3.toInt) (x2 := .inr 1000) (a4 := x4.toInt) (s := x5.toInt) (x6 := .inr 1000) (x7 := .inr 1000) (F := []) (G := []) hB (fun tt y6 y7 t1 t2 => ?_) (by omega) (by omega) H locs ls [] ⟨fun q hq => absurd hq List.not_mem_nil, fun q hq => absurd hq List.not_mem_nil, fun q hq => absurd hq List.not_mem_nil, fun q hq => absurd hq List.not_mem_nil⟩ zn_frm_rf ⟨Nat.le_refl _, fun _ _ _ => rfl, hm.2.2.2.2.2.2⟩ ⟨lv, lv1, lv2, fun i v hi hv => ?_⟩ rfl
        · intro H1 locs1 ls1 stk1 _h f1 s1 n1 st1
          have st1 : stk1 = [] := st1
          subst st1
          have eH : H1 = H := Array.ext_getElem? (fun b => f1.2.1 b (fun c hc => absurd hc (Nat.not_lt_zero _)))
          subst eH
          obtain ⟨lv', n2, n3, n4⟩ := n1
          obtain ⟨w5, ⟨y5, rfl, hy5⟩, m5⟩ := n4 5 _ rfl trivial
          have hn : (env ++ [Value.int y5])[z_n st]? = some (.int y5) := by rw [← hs.1]; simp
          have int_ : ∀ {i d : Nat} {x : Int32}, env[d]? = some (.int x) → (∃ w, zn_v (fun c => if c = 0 then a0 else OB (c - 900)) (.inl x.toInt) w ∧ (i, w) ∈ lv') → ∃ v, (env ++ [Value.int y5])[d]? = some v ∧ (i, v) ∈ lv' := by
            intro i d x hd hw
            obtain ⟨w, ⟨z, rfl, hz⟩, mw⟩ := hw
            have : z = x := Int32.toInt_inj.mp hz
            subst this
            exact ⟨_, z_app hd, mw⟩
          refine (hg _ _).mp hgo T H1 locs1 (env ++ [.int y5]) ls1 [] ⟨by show (env ++ [Value.int y5]).length = z_n st + 1; rw [List.length_append, hs.1]; rfl, ?_, ⟨lv', n2, n3, fun q hq => ?_⟩, rfl, fun q hq => ?_, z_ff_app hs.2.2.2.2.2.1, z_fe_app hs.2.2.2.2.2.2.1, fun q hq => ?_, z_fx_app hs.2.2.2.2.2.2.2.2.1, ⟨hm.1, hm.2.1, hm.2.2.1, hm.2.2.2.1, ⟨hm.2.2.2.2.1, hm.2.2.2.2.2.1, s1.2.2⟩⟩⟩
          · obtain ⟨w, hw⟩ := hs.2.1
            exact ⟨w ++ [.int y5], by rw [hw, List.append_assoc]⟩
          · have hq : q ∈ [(0, d0), (1, d1), (3, d3), (4, d4), (5, z_n st)] := hq
            simp only [List.mem_cons, List.not_mem_nil, or_false] at hq
            rcases hq with rfl | rfl | rfl | rfl | rfl
            · obtain ⟨w, hw, mw⟩ := n4 0 _ rfl (by show (0 : Nat) < 1000; omega)
              have hw : w = .ref (if (0 : Nat) = 0 then a0 else OB (0 - 900)) := hw
              rw [if_pos rfl] at hw
              subst hw
              exact ⟨_, z_app e0, mw⟩
            · exact int_ e1 (n4 1 _ rfl trivial)
            · exact int_ e3 (n4 3 _ rfl trivial)
            · exact int_ e4 (n4 4 _ rfl trivial)
            · exact ⟨_, hn, m5⟩
          · rcases List.mem_cons.mp hq with rfl | hq
            · exact ⟨_, hn, y5, rfl, by show r.1 + 1 ≤ y5.toInt; omega, by show y5.toInt ≤ 67108863; omega⟩
            · exact z_fv_app hs.2.2.2.2.1 q hq
          · rcases List.mem_cons.mp hq with rfl | hq
            · exact ⟨x5, y5, hn, z_app e5, by show x5.toInt + 1 ≤ y5.toInt; omega⟩
            · exact z_fr_app hs.2.2.2.2.2.2.2.1 q hq
        · match i, hi with
          | 0, hi =>
            have e : (.inr 0 : zNV) = v := Option.some.inj hi
            subst e
            exact ⟨_, rfl, at_ h0 (by show env[d0]? = some (.ref (if (0 : Nat) = 0 then a0 else OB (0 - 900))); rw [if_pos rfl]; exact e0)⟩
          | 1, hi =>
            have e : (.inl x1.toInt : zNV) = v := Option.some.inj hi
            subst e
            exact ⟨_, ⟨x1, rfl, rfl⟩, at_ h1 e1⟩
          | 2, hi =>
            have e : (.inr 1000 : zNV) = v := Option.some.inj hi
            subst e
            have hv : (1000 : Nat) < 1000 := hv
            omega
          | 3, hi =>
            have e : (.inl x3.toInt : zNV) = v := Option.some.inj hi
            subst e
            exact ⟨_, ⟨x3, rfl, rfl⟩, at_ h3 e3⟩
          | 4, hi =>
            have e : (.inl x4.toInt : zNV) = v := Option.some.inj hi
            subst e
            exact ⟨_, ⟨x4, rfl, rfl⟩, at_ h4 e4⟩
          | 5, hi =>
            have e : (.inl x5.toInt : zNV) = v := Option.some.inj hi
            subst e
            exact ⟨_, ⟨x5, rfl, rfl⟩, at_ h5 e5⟩
          | 6, hi =>
            have e : (.inr 1000 : zNV) = v := Option.some.inj hi
            subst e
            have hv : (1000 : Nat) < 1000 := hv
            omega
          | 7, hi =>
            have e : (.inr 1000 : zNV) = v := Option.some.inj hi
            subst e
            have hv : (1000 : Nat) < 1000 := hv
            omega
          | i + 8, hi => cases hi
      · cases hL
    · cases hL
