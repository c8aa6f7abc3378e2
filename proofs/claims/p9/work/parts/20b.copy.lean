/-! System.arraycopy of ints, from place 0 to place 0. -/
theorem z_nfw : nativeFrameWords "java/lang/System" "arraycopy" 5 + 11 ≤ 60 := by decide +kernel
/-- all entries are ints -/
def z_alli (q : Nat × (Nat × Nat) × List ((Nat × Nat) × zV)) : Bool := Nat.beq q.1 0 && q.2.2.any (fun g => Nat.ble g.1.1 0 && Nat.ble q.2.1.2 (g.1.2 + 1) && (match g.2 with
  | .inl _ => true
  | _ => false))
def z_acp (TY : List zTy) (RO : List Nat) (R : Room) (st : zS) : Option zS := match z_S st with
  | n :: dp :: d :: sp :: a :: S => (match z_csum st S, z_get (z_V st) n, z_get (z_V st) dp, z_get (z_V st) sp, z_get (z_V st) d, z_get (z_V st) a with
    | some k, some (.inl rn), some (.inl rd), some (.inl rs), some (.inr (.inl td)), some (.inr (.inl ta)) => (match TY[td]?, TY[ta]? with
      | some (.inr qd), some (.inr qa) => cond (z_ile 0 rd.1 && z_ile rd.2 0 && z_ile 0 rs.1 && z_ile rs.2 0 && z_ile 0 rn.1 && z_ile rn.2 (qd.2.1.1 : Int) && z_ile rn.2 (qa.2.1.1 : Int) && z_alli qd && z_alli qa && (!(RO.any (fun x => Nat.beq x td)) && !(zj_prot TY td)) &&
          qd.2.2.all (fun g => qa.2.2.any (fun f => Nat.ble f.1.1 g.1.1 && Nat.ble g.1.2 f.1.2 && z_le f.2 g.2)) && Nat.ble 1 R.frames && Nat.ble (k + 60) R.locals)
          (some (z_wr st S ((z_F st).filter (fun f => z_apt st f.1 d)) ((z_E st).filter (fun f => z_apt st f.1 d)))) none
      | _, _ => none)
    | _, _, _, _, _, _ => none)
  | _ => none
theorem z_arrC {c : ClassId} {n : Nat} {f g : Nat → Value} (h : ∀ j, j < n → f j = g j) : arrV c n f = arrV c n g := by
  have : (Array.ofFn (n := n) fun j => f j.val) = Array.ofFn (n := n) fun j => g j.val := by
    congr 1
    funext j
    exact h j.val j.isLt
  unfold arrV
  rw [this]
def z_int (v : Value) : Int32 := match v with
  | .int x => x
  | _ => 0
theorem z_alli_ok {OB : Nat → Nat} {T : zTp} {q : Nat × (Nat × Nat) × List ((Nat × Nat) × zV)} (h : z_alli q = true) {n : Nat} {f : Nat → Value} (hn : n ≤ q.2.1.2) (hf : ∀ g ∈ q.2.2, ∀ j, j < n → g.1.1 ≤ j → j ≤ g.1.2 → z_v OB T g.2 (f j)) : q.1 = 0 ∧ ∀ j, j < n → f j = .int (z_int (f j)) := by
  unfold z_alli at h
  rw [Bool.and_eq_true] at h
  refine ⟨z_beq h.1, fun j hj => ?_⟩
  obtain ⟨g, hg, h2⟩ := List.any_eq_true.mp h.2
  simp only [Bool.and_eq_true] at h2
  obtain ⟨⟨h3, h4⟩, h5⟩ := h2
  have h3 := Nat.le_of_ble_eq_true h3
  have h4 := Nat.le_of_ble_eq_true h4
  have hv := hf g hg j hj (by omega) (by omega)
  obtain ⟨gr, gv⟩ := g
  cases gv with
  | inl r => obtain ⟨x, e, _⟩ := hv; rw [e]; rfl
  | inr u => cases h5
section ZCOPY
variable {p : Program} {l : Launch} {e : Env} {R : Room} {s : State} {m : MethodId} {args : Array Value} {below : List Frame} {meth : Method} {c : Code} {Q : State → Prop} {cc : ByteArray} {pc : Nat}
variable {OB : Nat → Nat} {D : va_G} {DA : Nat → ClassId} {cl : List vw_C} {TY : List zTy} {PHI : List (List Nat)} {sz : Nat} {raw : Option Nat} {pu : Bool} {T0 : zTp} {H0 : Heap} {env0 : List Value} {nL : Nat} {st st' : zS} {good : Nat → zS → Prop}
variable {Ts : List Cond} {own : String} {tys : List (ClassId × FieldType)} {RO : List Nat}
variable {T : zTp} {H : Heap} {locs : List Loc} {env : List Value} {ls : Array Slot} {stk : List Value} {cells slots : Nat} {rest : List Value}
/-- the row: the other cells stay -/
theorem z_cprow (hx : p.tables.exec = Jvm.exec) (hb : c.code = cc) (hml : c.maxLocals = ls.size) (hD : z_Dy s m args Ts own D cl DA (z_tys DA)) {i : Nat} (w1 : Cond.methodLink own i arraycopyName ∈ Ts) (w2 : Cond.native arraycopyName ∈ Ts) (w3 : Cond.static arraycopyName ∈ Ts) (w4 : Cond.initialized "java/lang/System" ∈ Ts)
    {a0 a n0 n1 : Nat} {f g : Nat → Int32} (hc0 : H[a0]? = some (arrV (DA 0) n0 (fun j => .int (f j)))) (hc1 : H[a]? = some (arrV (DA 0) n1 (fun j => .int (g j)))) {sp dp n : Int32} (h1 : sp.toInt = 0) (h2 : dp.toInt = 0) (h3 : 0 ≤ n.toInt) (h4 : n.toInt.toNat ≤ n0) (h5 : n.toInt.toNat ≤ n1)
    (hframes : 1 ≤ R.frames) (hlocals : (rest.map fun v => v.category).sum + 60 ≤ R.locals) (hd : decode cc pc = .ok (.invokestatic i, 3))
    (kk : ∀ (H1 : Heap) (L : List Loc), (∀ q ∈ L, q.base = a) → H1[a]? = some (arrV (DA 0) n1 (fun j => .int (va_cpy f g 0 0 n.toInt.toNat j))) → H1.size = H.size → (∀ b : Nat, b ≠ a → H1[b]? = H[b]?) → W p l e R s m args below meth c H1 (locs ++ L) cells slots Q (F0 m (pc + 3) ls rest)) : W p l e R s m args below meth c H locs cells slots Q (F0 m pc ls (.int n :: .int dp :: .ref a :: .int sp :: .ref a0 :: rest)) := by
  intro T1 hT X
  obtain ⟨hts, hown, hK, hty⟩ := hD
  have hA := hK.2 0 _ (hty 0 (by omega))
  obtain ⟨-, k0, hk0, cm0, hkk0⟩ := hA.1 n0 (fun j => .int (f j))
  obtain ⟨-, k1, hk1, cm1, hkk1⟩ := hA.1 n1 (fun j => .int (g j))
  have z0 : (0 : Int32).toInt = 0 := rfl
  have neg : ∀ z : Int32, 0 ≤ z.toInt → ¬ z < 0 := fun z hz h => by have := Int32.lt_iff_toInt_lt.mp h; omega
  obtain ⟨vm', X', step⟩ := X.arraycopy hx hown (hts _ w1) (hts _ w2) (hts _ w3) (hts _ w4) (src := a0) (dst := a) (cs := arrV (DA 0) n0 (fun j => .int (f j))) (cd := arrV (DA 0) n1 (fun j => .int (g j))) (srcPos := sp) (destPos := dp) (n := n) (by rw [hT]; exact hc0) (by rw [hT]; exact hc1)
    (fun _ h => by cases h) (fun _ h => by cases h) (fun h => by cases h) (fun h => by cases h) hk0 hk1 hkk0 hkk1 rfl (neg _ (by omega)) (neg _ (by omega)) (neg _ h3)
    (by rw [arrV_size]; omega) (by rw [arrV_size]; omega)
    (fun vm₁ _ j hj => by
      have hj2 : j < n.toInt.toNat := hj
      have e : (arrV (DA 0) n0 (fun j => .int (f j))).slots.getD (sp.toNatClampNeg + j) .null = .int (f (sp.toNatClampNeg + j)) := by
        rw [Array.getD_eq_getD_getElem?, arrV_read _ _ (by rw [z_clamp]; omega)]
        rfl
      rw [e]
      exact ⟨rfl, trivial⟩)
    (g := F0 m pc ls (.int n :: .int dp :: .ref a :: .int sp :: .ref a0 :: rest)) rfl (by rw [hml]) (rest := rest) rfl (by rw [hb]; exact hd) hframes (by show 2 * 0 + _ + _ ≤ _; have := z_nfw; omega)
  have e1 : copied (arrV (DA 0) n0 (fun j => .int (f j))) (arrV (DA 0) n1 (fun j => .int (g j))) sp dp n = arrV (DA 0) n1 (fun j => .int (va_cpy f g 0 0 n.toInt.toNat j)) := by
    have := va_copied (n1 := n1) (sp := sp.toNatClampNeg) (dp := dp.toNatClampNeg) (n := n.toNatClampNeg) (fun z => Value.int z) (DA 0) (DA 0) f g (n0 := n0) (by rw [z_clamp, z_clamp]; omega)
    have es : sp.toNatClampNeg = 0 := by rw [z_clamp, h1]; rfl
    have ed : dp.toNatClampNeg = 0 := by rw [z_clamp, h2]; rfl
    rw [es, ed] at this
    show (arrV (DA 0) n1 (fun j => .int (g j))).storeRun dp.toNatClampNeg ((arrV (DA 0) n0 (fun j => .int (f j))).stretch sp.toNatClampNeg n.toNatClampNeg) = _
    rw [es, ed]
    exact this
  rw [e1] at X' step
  have hl : a < H.size := (Array.getElem?_eq_some_iff.mp hc1).1
  obtain ⟨t, q1, q2⟩ := kk (H.setIfInBounds a (arrV (DA 0) n1 (fun j => .int (va_cpy f g 0 0 n.toInt.toNat j)))) _ (fun q hq => by obtain ⟨z, -, hz⟩ := List.mem_map.mp hq; rw [← hz]) (by simp [Array.getElem?_setIfInBounds, hl]) (by simp) (fun b hb2 => by simp [Array.getElem?_setIfInBounds, Ne.symm hb2]) _ (by rw [← hT]; rfl) X'
  exact ⟨t, step t q1, q2⟩
theorem z_S_app {A : Nat → Prop} {H1 : Heap} {L : List Loc} {a : Nat} (h : va_S A H0 H locs) (hz : H1.size = H.size) (oq : ∀ b : Nat, b ≠ a → H1[b]? = H[b]?) (ha : A a) (hL : ∀ q ∈ L, q.base = a) : va_S A H0 H1 (locs ++ L) := by
  have h2 := h.put (k := 0) hz oq ha
  refine ⟨h2.1, h2.2.1, fun q hq => ?_⟩
  rcases List.mem_append.mp hq with hq | hq
  · exact h.2.2 q hq
  · rw [hL q hq]; exact ha
theorem z_acp_ok (hpu : pu = false) (h : z_acp TY RO R st = some st') (hs : z_sat OB D DA cl TY PHI sz raw pu T0 H0 env0 nL st T H locs env ls stk) :
    ∃ (a0 a n0 n1 : Nat) (f g : Nat → Int32) (sp dp n : Int32) (k : List Value), stk = .int n :: .int dp :: .ref a :: .int sp :: .ref a0 :: k ∧ H[a0]? = some (arrV (DA 0) n0 (fun j => .int (f j))) ∧ H[a]? = some (arrV (DA 0) n1 (fun j => .int (g j))) ∧ sp.toInt = 0 ∧ dp.toInt = 0 ∧ 0 ≤ n.toInt ∧ n.toInt.toNat ≤ n0 ∧ n.toInt.toNat ≤ n1 ∧
      1 ≤ R.frames ∧ (k.map fun v => v.category).sum + 60 ≤ R.locals ∧ z_C st' = z_C st ∧
      ∀ (H1 : Heap) (L : List Loc), (∀ q ∈ L, q.base = a) → H1[a]? = some (arrV (DA 0) n1 (fun j => .int (va_cpy f g 0 0 n.toInt.toNat j))) → H1.size = H.size → (∀ b : Nat, b ≠ a → H1[b]? = H[b]?) → z_sat OB D DA cl TY PHI sz raw pu T0 H0 env0 nL st' T H1 (locs ++ L) env ls k := by
  unfold z_acp at h
  split at h
  · rename_i n dp d sp a S hS
    split at h
    · rename_i k rn rd rs td ta hk0 hn hdp hsp hd ha
      split at h
      · rename_i qd qa hqd hqa
        obtain ⟨hc, rfl⟩ := z_cond h
        simp only [Bool.and_eq_true] at hc
        obtain ⟨⟨⟨⟨⟨⟨⟨⟨⟨⟨⟨⟨c1, c2⟩, c3⟩, c4⟩, c5⟩, c6⟩, c7⟩, c8⟩, c9⟩, c10⟩, c11⟩, c12⟩, c13⟩ := hc
        obtain ⟨ek, ⟨lo, hi⟩, sg⟩ := qd
        obtain ⟨ek0, ⟨lo0, hi0⟩, sg0⟩ := qa
        obtain ⟨vn, k1, rfl, e1, hk1⟩ := z_stk_cons hS hs.2.2.2.1
        obtain ⟨vdp, k2, rfl, e2, hk2⟩ := hk1
        obtain ⟨vd, k3, rfl, e3, hk3⟩ := hk2
        obtain ⟨vsp, k4, rfl, e4, hk4⟩ := hk3
        obtain ⟨va, k5, rfl, e5, hk5⟩ := hk4
        obtain ⟨_, i1, xn, rfl, hxn⟩ := z_get_ok hs.2.2.2.2.1 hn
        obtain ⟨_, i2, xdp, rfl, hxdp⟩ := z_get_ok hs.2.2.2.2.1 hdp
        obtain ⟨_, i3, xsp, rfl, hxsp⟩ := z_get_ok hs.2.2.2.2.1 hsp
        obtain ⟨A1, n1, f1, g1, g2, g3, g4, g5, g6, g7⟩ := z_arr hs hd hqd
        obtain ⟨A0, n0, f0, j1, j2, j3, j4, j5, j6, j7⟩ := z_arr hs ha hqa
        have q1 : vn = .int xn := Option.some.inj (e1.symm.trans i1)
        have q2 : vdp = .int xdp := Option.some.inj (e2.symm.trans i2)
        have q3 : vd = .ref A1 := Option.some.inj (e3.symm.trans g1)
        have q4 : vsp = .int xsp := Option.some.inj (e4.symm.trans i3)
        have q5 : va = .ref A0 := Option.some.inj (e5.symm.trans j1)
        subst q1; subst q2; subst q3; subst q4; subst q5
        obtain ⟨he, hall⟩ := z_alli_ok c8 g5 g7
        obtain ⟨he0, hall0⟩ := z_alli_ok c9 j5 j7
        have he : ek = 0 := he
        have he0 : ek0 = 0 := he0
        subst he; subst he0
        have t1 : H[A1]? = some (arrV (DA 0) n1 (fun j => .int (z_int (f1 j)))) := by rw [g3, z_arrC hall]
        have t0 : H[A0]? = some (arrV (DA 0) n0 (fun j => .int (z_int (f0 j)))) := by rw [j3, z_arrC hall0]
        have c1 := z_ile_ok c1
        have c2 := z_ile_ok c2
        have c3 := z_ile_ok c3
        have c4 := z_ile_ok c4
        have c5 := z_ile_ok c5
        have c6 : rn.2 ≤ (lo : Int) := z_ile_ok c6
        have c7 : rn.2 ≤ (lo0 : Int) := z_ile_ok c7
        obtain ⟨x1, x2⟩ := hxn
        obtain ⟨x3, x4⟩ := hxdp
        obtain ⟨x5, x6⟩ := hxsp
        have hcat := z_csum_ok hk0 hs hk5
        have hle := Nat.le_of_ble_eq_true c13
        refine ⟨A0, A1, n0, n1, _, _, xsp, xdp, xn, k5, rfl, t0, t1, by omega, by omega, by omega, by omega, by omega, Nat.le_of_ble_eq_true c12, by rw [hcat]; exact hle, rfl, fun H1 L hL h1 h2 h3 => ?_⟩
        have hcell : z_cell OB D DA cl T H1 A1 (.inr (0, (lo, hi), sg)) := by
          refine ⟨n1, _, h1, g4, g5, g6, fun g hg i hi1 hi2 hi3 => ?_⟩
          by_cases hin : i < xn.toInt.toNat
          · obtain ⟨fs, hfs, hfs2⟩ := List.any_eq_true.mp (List.all_eq_true.mp c11 g hg)
            simp only [Bool.and_eq_true] at hfs2
            have b1 := Nat.le_of_ble_eq_true hfs2.1.1
            have b2 := Nat.le_of_ble_eq_true hfs2.1.2
            have hv := j7 fs hfs i (by omega) (by omega) (by omega)
            rw [hall0 i (by omega)] at hv
            show z_v OB T g.2 (.int (va_cpy _ _ 0 0 _ i))
            rw [sb_cpy0 hin]
            exact z_le_ok hfs2.2 hv
          · have hv := g7 g hg i hi1 hi2 hi3
            rw [hall i hi1] at hv
            show z_v OB T g.2 (.int (va_cpy _ _ 0 0 _ i))
            rw [pk_cpy_out (Or.inr (by omega))]
            exact hv
        have hm := z_mem_set (k := 0) hpu hs.2.2.2.2.2.2.2.2.2 g2 hqd hcell h2 h3 (fun _ _ _ _ _ hh => by cases hh) (zJ_set hs.2.2.2.2.2.2.2.2.2.1.2 hs.2.2.2.2.2.2.2.2.2.1.1 g2 (by simpa using c10.2) h3 (fun ci fl hh => by rw [hqd] at hh; cases hh))
        have hx0 : ∀ (cC : ClassId) (N : Nat) (iS : Nat → Nat) (V : Nat → Value), t_OB A1 cC N iS H V → ∃ V', t_OB A1 cC N iS H1 V' := by
          intro cC N iS V hob
          obtain ⟨cell0, u1, u2, u3, u4⟩ := hob
          rw [t1] at u1
          cases u1
          refine ⟨fun k => .int (va_cpy (fun j => z_int (f0 j)) (fun j => z_int (f1 j)) 0 0 xn.toInt.toNat (iS k)), _, h1, u2, rfl, fun k hk => ?_⟩
          have hlt := (Array.getElem?_eq_some_iff.mp (u4 k hk)).1
          rw [arrV_size] at hlt
          exact arrV_read _ _ hlt
        refine ⟨hs.1, hs.2.1, hs.2.2.1, hk5, hs.2.2.2.2.1, fun f1 hf => ?_, fun f1 hf => ?_, hs.2.2.2.2.2.2.2.1, z_fx_upd h3 hx0 hs.2.2.2.2.2.2.2.2.1, hm.1, hm.2.1, hm.2.2.1, hm.2.2.2.1, z_S_app hs.2.2.2.2.2.2.2.2.2.2.2.2.2 h2 h3 (hs.2.2.2.2.2.2.2.2.2.2.1.1 A1 td g2) hL⟩
        · obtain ⟨hf1, hf2⟩ := List.mem_filter.mp hf
          obtain ⟨b, u, r2, y1, y2, y3, y4, y5⟩ := hs.2.2.2.2.2.1 f1 hf1
          exact ⟨b, u, r2, y1, y2, y3, y4, z_sl_kept y5 (h3 b (z_apt_ok hf2 hs y1 g1))⟩
        · obtain ⟨hf1, hf2⟩ := List.mem_filter.mp hf
          obtain ⟨b, x2, u, y1, y2, y3, y4, y5⟩ := hs.2.2.2.2.2.2.1 f1 hf1
          exact ⟨b, x2, u, y1, y2, y3, y4, z_sl_kept y5 (h3 b (z_apt_ok hf2 hs y1 g1))⟩
      · cases h
    · cases h
  · cases h
theorem z_r_acp (hpu : pu = false) (hg : z_Good p l e R s m args below meth c Q OB D DA cl TY PHI sz raw pu T0 H0 env0 nL good) (hx : p.tables.exec = Jvm.exec) (hb : c.code = cc) (hml : c.maxLocals = nL) (hD : z_Dy s m args Ts own D cl DA (z_tys DA)) {i : Nat} (w1 : Cond.methodLink own i arraycopyName ∈ Ts) (w2 : Cond.native arraycopyName ∈ Ts) (w3 : Cond.static arraycopyName ∈ Ts) (w4 : Cond.initialized "java/lang/System" ∈ Ts) (hd : decode cc pc = .ok (.invokestatic i, 3)) (h : z_acp TY RO R st = some st') (k : good (pc + 3) st') : good pc st := by
  refine (hg _ _).mpr fun T H locs env ls stk hs => ?_
  obtain ⟨a0, a, n0, n1, f, g, sp, dp, n, k2, rfl, h1, h2, h3, h4, h5, h6, h7, h8, h9, h10, h11⟩ := z_acp_ok hpu h hs
  have hlsz : ls.size = nL := by obtain ⟨lv, z1, _⟩ := hs.2.2.1; exact z1.1
  refine z_cprow hx hb (by rw [hml, hlsz]) hD w1 w2 w3 w4 h1 h2 h3 h4 h5 h6 h7 h8 h9 hd fun H1 L e1 e2 e3 e4 => ?_
  have kk := (hg _ _).mp k T H1 _ env ls _ (h11 H1 L e1 e2 e3 e4)
  rwa [h10] at kk
end ZCOPY
