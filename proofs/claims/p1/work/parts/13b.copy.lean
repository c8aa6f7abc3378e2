/-! System.arraycopy of ints, from place 0 to place 0. -/
theorem z_nfw : nativeFrameWords "java/lang/System" "arraycopy" 5 + 11 ≤ 60 := by decide +kernel
def z_acp (TY : List zTy) (RO : List Nat) (R : Room) (N8 : Option Nat) (st : zS) : Option zS := match z_S st, N8 with
  | n :: dp :: d :: sp :: a :: S, some k => (match z_get (z_V st) n, z_get (z_V st) dp, z_get (z_V st) sp, z_get (z_V st) d, z_get (z_V st) a with
    | some (.inl rn), some (.inl rd), some (.inl rs), some (.inr (.inl td)), some (.inr (.inl ta)) => (match TY[td]?, TY[ta]? with
      | some (.inr qd), some (.inr qa) => cond (z_ile 0 rd.1 && z_ile rd.2 0 && z_ile 0 rs.1 && z_ile rs.2 0 && z_ile 0 rn.1 && z_ile rn.2 (qd.2.1.1 : Int) && z_ile rn.2 (qa.2.1.1 : Int) && Nat.beq qd.1 0 && Nat.beq qa.1 0 && !(RO.any (fun x => Nat.beq x td)) &&
          qd.2.2.all (fun g => qa.2.2.any (fun f => Nat.ble f.1.1 g.1.1 && Nat.ble g.1.2 f.1.2 && z_le f.2 g.2)) && Nat.ble 1 R.frames && Nat.ble (k + 60) R.locals)
          (some (z_wr st S ((z_F st).filter (fun f => z_apt st f.1 d)) ((z_E st).filter (fun f => z_apt st f.1 d)))) none
      | _, _ => none)
    | _, _, _, _, _ => none)
  | _, _ => none
section ZCOPY
variable {p : Program} {l : Launch} {e : Env} {R : Room} {s : State} {m : MethodId} {args : Array Value} {below : List Frame} {meth : Method} {c : Code} {Q : State → Prop} {cc : ByteArray} {pc : Nat}
variable {OB : Nat → Nat} {D : va_G} {DA : Nat → ClassId} {cl : List vw_C} {TY : List zTy} {PHI : List (List Nat)} {sz : Nat} {raw : Option Nat} {pu : Bool} {T0 : zTp} {H0 : Heap} {env0 : List Value} {nL : Nat} {st st' : zS} {good : Nat → zS → Prop}
variable {Ts : List Cond} {own : String} {tys : List (ClassId × FieldType)} {RO : List Nat}
variable {T : zTp} {H : Heap} {locs : List Loc} {env : List Value} {ls : Array Slot} {stk : List Value} {cells slots : Nat} {rest : List Value}
/-- the row: the other cells stay -/
theorem z_cprow (hx : p.tables.exec = Jvm.exec) (hb : c.code = cc) (hml : c.maxLocals = ls.size) (hD : z_Dy s m args Ts own D cl DA tys) {i : Nat} (w1 : Cond.methodLink own i arraycopyName ∈ Ts) (w2 : Cond.native arraycopyName ∈ Ts) (w3 : Cond.static arraycopyName ∈ Ts) (w4 : Cond.initialized "java/lang/System" ∈ Ts)
    {a0 a n0 n1 : Nat} {f g : Nat → Int32} (hc0 : H[a0]? = some (arrV (DA 0) n0 (fun j => .int (f j)))) (hc1 : H[a]? = some (arrV (DA 0) n1 (fun j => .int (g j)))) {sp dp n : Int32} (h1 : sp.toInt = 0) (h2 : dp.toInt = 0) (h3 : 0 ≤ n.toInt) (h4 : n.toInt.toNat ≤ n0) (h5 : n.toInt.toNat ≤ n1)
    (hframes : 1 ≤ R.frames) (hlocals : (rest.map fun v => v.category).sum + 60 ≤ R.locals) (hd : decode cc pc = .ok (.invokestatic i, 3))
    (kk : ∀ (H1 : Heap) (L : List Loc), (∀ q ∈ L, q.base = a) → H1[a]? = some (arrV (DA 0) n1 (fun j => .int (va_cpy f g 0 0 n.toInt.toNat j))) → H1.size = H.size → (∀ b : Nat, b ≠ a → H1[b]? = H[b]?) → W p l e R s m args below meth c H1 (locs ++ L) cells slots Q (F0 m (pc + 3) ls rest)) : W p l e R s m args below meth c H locs cells slots Q (F0 m pc ls (.int n :: .int dp :: .ref a :: .int sp :: .ref a0 :: rest)) := by
  intro T1 hT X
  obtain ⟨hts, hown, hK, hty⟩ := hD
  have hA := hK.2 0 _ (hty 0 (by omega))
  obtain ⟨-, k0, hk0, cm0, hkk0⟩ := hA.1 n0 (fun j => .int (f j))
  obtain ⟨-, k1, hk1, cm1, hkk1⟩ := hA.1 n1 (fun j => .int (g j))
  have z0 : (0 : Int32).toInt = 0 := rfl
  have neg : ∀ z : Int32, 0 ≤ z.toInt → ¬ z < 0 := fun z hz h => by have := Int32.lt_iff_toInt_lt.mp h; omega
  obtain ⟨vm', X', step⟩ := X.arraycopy hx hown (hts _ w1) (hts _ w2) (hts _ w3) (hts _ w4) (src := a0) (dst := a) (cs := arrV (DA 0) n0 (fun j => .int (f j))) (cd := arrV (DA 0) n1 (fun j => .int (g j))) (srcPos := sp) (destPos := dp) (n := n) (by rw [hT]; exact hc0) (by rw [hT]; exact hc1)
    (fun _ h => by cases h) (fun _ h => by cases h) (fun h => by cases h) (fun h => by cases h) hk0 hk1 hkk0 hkk1 (by decide) (neg _ (by omega)) (neg _ (by omega)) (neg _ h3)
    (by rw [arrV_size]; omega) (by rw [arrV_size]; omega)
    (fun vm₁ _ j hj => by
      have hj2 : j < n.toInt.toNat := hj
      have e : (arrV (DA 0) n0 (fun j => .int (f j))).slots.getD (sp.toNatClampNeg + j) .null = .int (f (sp.toNatClampNeg + j)) := by
        rw [Array.getD_eq_getD_getElem?, arrV_read _ _ (by rw [z_clamp]; omega)]
        rfl
      rw [e]
      exact ⟨rfl, trivial⟩)
    (g := F0 m pc ls (.int n :: .int dp :: .ref a :: .int sp :: .ref a0 :: rest)) rfl (by rw [hml]) (rest := rest) rfl (by rw [hb]; exact hd) hframes (by show 2 * 0 + _ + _ ≤ _; have := z_nfw; omega)
  have e1 : copied (arrV (DA 0) n0 (fun j => .int (f j))) (arrV (DA 0) n1 (fun j => .int (g j))) sp dp n = arrV (DA 0) n1 (fun j => .int (va_cpy f g 0 0 n.toInt.toNat j)) := by
    have := va_copied (n1 := n1) (sp := sp.toNatClampNeg) (dp := dp.toNatClampNeg) (n := n.toNatClampNeg) (fun z => Value.int z) (DA 0) (DA 0) f g (n0 := n0) (by rw [z_clamp, z_clamp]; omega)
    have es : sp.toNatClampNeg = 0 := by rw [z_clamp, h1]; rfl
    have ed : dp.toNatClampNeg = 0 := by rw [z_clamp, h2]; rfl
    rw [es, ed] at this
    show (arrV (DA 0) n1 (fun j => .int (g j))).storeRun dp.toNatClampNeg ((arrV (DA 0) n0 (fun j => .int (f j))).stretch sp.toNatClampNeg n.toNatClampNeg) = _
    rw [es, ed]
    exact this
  rw [e1] at X' step
  have hl : a < H.size := (Array.getElem?_eq_some_iff.mp hc1).1
  obtain ⟨t, q1, q2⟩ := kk (H.setIfInBounds a (arrV (DA 0) n1 (fun j => .int (va_cpy f g 0 0 n.toInt.toNat j)))) _ (fun q hq => by obtain ⟨z, -, hz⟩ := List.mem_map.mp hq; rw [← hz]) (by simp [Array.getElem?_setIfInBounds, hl]) (by simp) (fun b hb2 => by simp [Array.getElem?_setIfInBounds, Ne.symm hb2]) _ (by rw [← hT]; rfl) X'
  exact ⟨t, step t q1, q2⟩
end ZCOPY
