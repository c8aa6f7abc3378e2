/-! One step. -/
/-- a method: name, code, locals, answer, parameters (without this), the place of its class -/
abbrev zM : Type := MethodName × ByteArray × Nat × Option FieldType × Nat × Nat
/-- what a method's check is given: fields, classes, links (index, kind, method), constants, calls (place, contract), arrays (place, type), acts ahead of a place -/
abbrev zK : Type := List (Nat × Nat × Nat) × List (Nat × Nat) × List (Nat × Nat × Nat) × List (Nat × Int32) × List (Nat × Nat) × List (Nat × Nat) × List (Nat × Nat × Nat × Int) × Option Nat
abbrev k_FL (k : zK) := k.1
abbrev k_CL (k : zK) := k.2.1
abbrev k_LK (k : zK) := k.2.2.1
abbrev k_CT (k : zK) := k.2.2.2.1
abbrev k_CA (k : zK) := k.2.2.2.2.1
abbrev k_NA (k : zK) := k.2.2.2.2.2.1
abbrev k_AC (k : zK) := k.2.2.2.2.2.2.1
abbrev k_IN (k : zK) := k.2.2.2.2.2.2.2
def z_one (len k pc : Nat) (o : Option zS) : Option (List (Nat × zS)) := cond (Nat.beq len k) (o.map (fun s => [(pc + k, s)])) none
def z_all (len k pc : Nat) (o : Option (List zS)) : Option (List (Nat × zS)) := cond (Nat.beq len k) (o.map (fun L => L.map (fun s => (pc + k, s)))) none
def z_calls (TY : List zTy) (PHI : List (List Nat)) (cl : List vw_C) (FT : Nat → Nat → FieldType) (MT : List zM) (SG : List (Nat × zSig)) (R : Room) (pu : Bool) (K : zK) (kinds : Nat → Bool) (pc i : Nat) (st : zS) : Option (List zS) := match (k_LK K).find? (fun q => Nat.beq q.1 i && kinds q.2.1) with
  | some q => (k_CA K).findSome? (fun a => cond (Nat.beq a.1 pc) (match SG[a.2]? with
    | some g => cond (Nat.beq g.1 q.2.2) (match MT[g.1]? with
      | some m => z_inv TY PHI cl FT R pu q.2.1 m.2.2.2.2.2 m.2.2.1 m.2.2.2.2.1 g.2 st
      | none => none) none
    | none => none) none)
  | none => none
/-- the making of an Object -/
def z_obi (R : Room) (K : zK) (i : Nat) (st : zS) : Option zS := match z_S st, (k_LK K).find? (fun q => Nat.beq q.1 i && Nat.beq q.2.1 9) with
  | d :: S, some _ => cond (z_isr st d && Nat.ble 1 R.frames) (match z_csum st S with
    | some n => cond (Nat.ble (n + 12) R.locals) (some (z_stS st S)) none
    | none => none) none
  | _, _ => none
def z_step (TY : List zTy) (PHI : List (List Nat)) (cl : List vw_C) (FT : Nat → Nat → FieldType) (MT : List zM) (SG : List (Nat × zSig)) (RO : List Nat) (R : Room) (pu : Bool) (nL : Nat) (K : zK) (pc : Nat) (ins : Instr) (len : Nat) (st : zS) : Option (List (Nat × zS)) := match ins with
  | .iconst n => z_one len 1 pc (z_iconst st n)
  | .bipush n => z_one len 2 pc (z_bip st n)
  | .sipush n => z_one len 3 pc (z_sip st n)
  | .ldc i => z_one len 2 pc (match (k_CT K).find? (fun q => Nat.beq q.1 i) with
    | some q => z_iconst st q.2.toInt
    | none => none)
  | .ldc_w i => z_one len 3 pc (match (k_CT K).find? (fun q => Nat.beq q.1 i) with
    | some q => z_iconst st q.2.toInt
    | none => none)
  | .iload i => z_one len 2 pc (z_iload st i)
  | .iload_n i => z_one len 1 pc (z_iload st i.val)
  | .aload i => z_one len 2 pc (z_aload st i)
  | .aload_n i => z_one len 1 pc (z_aload st i.val)
  | .istore i => z_one len 2 pc (z_istore nL st i)
  | .istore_n i => z_one len 1 pc (z_istore nL st i.val)
  | .astore i => z_one len 2 pc (z_astore nL st i)
  | .astore_n i => z_one len 1 pc (z_astore nL st i.val)
  | .iinc i n => z_one len 3 pc (z_iinc nL st i n)
  | .dup => z_one len 1 pc (z_dup st)
  | .dup_x1 => z_one len 1 pc (z_dupx1 st)
  | .dup2 => z_one len 1 pc (z_dup2 st)
  | .pop => z_one len 1 pc (z_pop st)
  | .iadd => z_one len 1 pc (z_iadd st)
  | .isub => z_one len 1 pc (z_isub st)
  | .imul => z_one len 1 pc (z_bin z_mul st)
  | .idiv => z_one len 1 pc (z_bin0 z_div st)
  | .irem => z_one len 1 pc (z_bin0 z_rem st)
  | .iand => z_one len 1 pc (z_bin z_and st)
  | .ior => z_one len 1 pc (z_bin z_or st)
  | .ixor => z_one len 1 pc (z_bin z_xor st)
  | .ishl => z_one len 1 pc (z_bin z_shl st)
  | .ishr => z_one len 1 pc (z_bin z_shr st)
  | .iushr => z_one len 1 pc (z_bin z_ushr st)
  | .ineg => z_one len 1 pc (z_un z_neg st)
  | .i2b => z_one len 1 pc (z_un z_i2b st)
  | .i2c => z_one len 1 pc (z_un z_i2c st)
  | .if_icmp k off => cond (Nat.beq len 3) (z_icmp st pc k off) none
  | .ifCond k off => cond (Nat.beq len 3) (z_icnd st pc k off) none
  | .goto off => cond (Nat.beq len 3) ((z_to pc off).map (fun t => [(t, st)])) none
  | .tableswitch d lo hi offs => z_tsw st pc d lo hi offs.toList
  | .lookupswitch d ps => z_lsw st pc d ps.toList
  | .getfield i => z_one len 3 pc (z_getf TY (k_FL K) st i)
  | .putfield i => cond pu none (z_one len 3 pc (z_putf TY cl FT (k_IN K) (k_FL K) st i))
  | .iaload => z_one len 1 pc (z_ald TY 0 st)
  | .baload => z_one len 1 pc (z_ald TY 1 st)
  | .laload => z_one len 1 pc (z_ald TY 2 st)
  | .iastore => cond pu none (z_one len 1 pc (z_ast TY RO 0 st))
  | .bastore => cond pu none (z_one len 1 pc (z_ast TY RO 1 st))
  | .lastore => cond pu none (z_one len 1 pc (z_ast TY RO 2 st))
  | .arraylength => z_one len 1 pc (z_alen TY st)
  | .newarray a => cond pu none (z_one len 2 pc (match z_at a, (k_NA K).find? (fun q => Nat.beq q.1 pc) with
    | some ek, some q => z_nwa TY R.cells R.slots q.2 ek st
    | _, _ => none))
  | .new i => cond pu none (z_one len 3 pc (z_new (k_CL K) cl FT R.cells R.slots st i))
  | .lconst _ => z_one len 1 pc (z_lc0 st)
  | .lshl => z_one len 1 pc (z_lsh st)
  | .lor => z_one len 1 pc (z_l2 (.inr (.inr 0)) st)
  | .lcmp => z_one len 1 pc (z_l2 (.inl z_full) st)
  | .invokevirtual i => z_all len 3 pc (z_calls TY PHI cl FT MT SG R pu K (fun k => Nat.beq k 0) pc i st)
  | .invokestatic i => cond ((k_LK K).any (fun q => Nat.beq q.1 i && Nat.beq q.2.1 8)) (cond pu none (z_one len 3 pc (z_acp TY RO R st))) (z_all len 3 pc (z_calls TY PHI cl FT MT SG R pu K (fun k => Nat.beq k 1 || Nat.beq k 4) pc i st))
  | .invokespecial i => (match z_obi R K i st with
    | some s => z_one len 3 pc (some s)
    | none => z_all len 3 pc (z_calls TY PHI cl FT MT SG R pu K (fun k => Nat.beq k 2 || Nat.beq k 3) pc i st))
  | _ => none
/-- what the tables say of a method's own places -/
def z_KS (Ts TBL : List Cond) (cl : List vw_C) (FT : Nat → Nat → FieldType) (own : String) (MT : List zM) (K : zK) : Prop :=
  z_St Ts cl FT own (k_FL K) ∧ (∀ q ∈ k_CL K, ∃ r, cl[q.2]? = some r ∧ Cond.classLink own q.1 r.1 ∈ Ts ∧ Cond.instantiable r.1 r.2.2 ∈ Ts ∧ Cond.initialized r.1 ∈ Ts) ∧
  (∀ q ∈ k_LK K, (q.2.1 = 9 → Cond.methodLink own q.1 Lib.objectInit ∈ Ts ∧ Cond.instanceMethod Lib.objectInit ∈ Ts ∧ Cond.code Lib.objectInit ⟨#[0xb1]⟩ 1 none ∈ Ts) ∧ (q.2.1 = 8 → Cond.methodLink own q.1 arraycopyName ∈ Ts ∧ Cond.native arraycopyName ∈ Ts ∧ Cond.static arraycopyName ∈ Ts ∧ Cond.initialized "java/lang/System" ∈ Ts) ∧ (q.2.1 ≤ 4 → ∃ mm, MT[q.2.2]? = some mm ∧ z_lk Ts own q.2.1 q.1 mm.1 mm.2.1 mm.2.2.1 mm.2.2.2.1 mm.2.2.2.2.1 ∧ (q.2.1 = 0 → ∃ r, cl[mm.2.2.2.2.2]? = some r ∧ r.1 = mm.1.cls))) ∧
  (∀ q ∈ k_CT K, Cond.constant own q.1 q.2 ∈ Ts) ∧ (∀ k, k < 3 → Cond.arrayClass (z_ek k) ∈ Ts) ∧ (∀ w ∈ TBL, w ∈ Ts ∧ z_gw w = true) ∧ (∀ j r, k_IN K = some j → cl[j]? = some r → r.1 = own)
section ZSTEP
variable {p : Program} {l : Launch} {e : Env} {R : Room} {s : State} {m : MethodId} {args : Array Value} {below : List Frame} {meth : Method} {c : Code} {Q : State → Prop} {cc : ByteArray} {pc : Nat}
variable {OB : Nat → Nat} {D : va_G} {DA : Nat → ClassId} {cl : List vw_C} {FT : Nat → Nat → FieldType} {TY : List zTy} {PHI : List (List Nat)} {sz : Nat} {raw : Option Nat} {pu : Bool} {T0 : zTp} {H0 : Heap} {env0 : List Value} {nL : Nat} {st st' : zS} {KXf : (Nat → Nat) → Nat → State → Heap → Prop} {good : Nat → zS → Prop}
variable {Ts TBL : List Cond} {own : String} {MT : List zM} {SG : List (Nat × zSig)} {RO : List Nat} {K : zK}
theorem z_one_ok {len k : Nat} {o : Option zS} {L : List (Nat × zS)} (h : z_one len k pc o = some L) (hall : ∀ q ∈ L, good q.1 q.2) : len = k ∧ ∃ st', o = some st' ∧ good (pc + k) st' := by
  unfold z_one at h
  cases hb : Nat.beq len k with
  | false => rw [hb] at h; cases h
  | true =>
    rw [hb] at h
    cases o with
    | none => cases h
    | some s =>
      cases h
      exact ⟨z_beq hb, s, rfl, hall _ (List.mem_singleton.mpr rfl)⟩
theorem z_all_ok {len k : Nat} {o : Option (List zS)} {L : List (Nat × zS)} (h : z_all len k pc o = some L) (hall : ∀ q ∈ L, good q.1 q.2) : len = k ∧ ∃ L', o = some L' ∧ ∀ s ∈ L', good (pc + k) s := by
  unfold z_all at h
  cases hb : Nat.beq len k with
  | false => rw [hb] at h; cases h
  | true =>
    rw [hb] at h
    cases o with
    | none => cases h
    | some L' =>
      cases h
      exact ⟨z_beq hb, L', rfl, fun s hs => hall (pc + k, s) (List.mem_map.mpr ⟨s, hs, rfl⟩)⟩
theorem z_calls_ok (hg : z_Good p l e R s m args below meth c Q OB D DA cl TY PHI sz raw pu T0 H0 env0 nL good) (hx : p.tables.exec = Jvm.exec) (hb : c.code = cc) (hml : c.maxLocals = nL) (hD : z_Dy s m args Ts own D cl DA (z_tys DA)) (hsz : sz ≤ H0.size) (hXp : z_KXp sz (KXf OB sz)) (hX : KXf OB sz s H0) (hKS : z_KS Ts TBL cl FT own MT K)
    (hok : ∀ g ∈ (k_CA K).filterMap (fun a => SG[a.2]?), ∀ mm, MT[g.1]? = some mm → z_OK TBL cl FT TY PHI KXf mm.1 mm.2.1 mm.2.2.1 mm.2.2.2.1 g.2) {i : Nat} {kinds : Nat → Bool} {ins : Instr} (hk : ∀ k, kinds k = true → k ≤ 4 ∧ z_ins k i = ins) (hd : decode cc pc = .ok (ins, 3)) {L : List zS} (h : z_calls TY PHI cl FT MT SG R pu K kinds pc i st = some L) (hall : ∀ s ∈ L, good (pc + 3) s) : good pc st := by
  unfold z_calls at h
  split at h
  · rename_i q hq
    have hm := List.mem_of_find?_eq_some hq
    have hp := List.find?_some hq
    rw [Bool.and_eq_true] at hp
    have hi : q.1 = i := z_beq hp.1
    obtain ⟨hk1, hk2⟩ := hk _ hp.2
    obtain ⟨a, ha, ha2⟩ := List.exists_of_findSome?_eq_some h
    cases hb1 : Nat.beq a.1 pc with
    | false => rw [hb1] at ha2; cases ha2
    | true =>
      rw [hb1] at ha2
      have ha2 : (match SG[a.2]? with
        | some g => cond (Nat.beq g.1 q.2.2) (match MT[g.1]? with
          | some m => z_inv TY PHI cl FT R pu q.2.1 m.2.2.2.2.2 m.2.2.1 m.2.2.2.2.1 g.2 st
          | none => none) none
        | none => none) = some L := ha2
      split at ha2
      · rename_i g hg2
        cases hb2 : Nat.beq g.1 q.2.2 with
        | false => rw [hb2] at ha2; cases ha2
        | true =>
          rw [hb2] at ha2
          have ha2 : (match MT[g.1]? with
            | some m => z_inv TY PHI cl FT R pu q.2.1 m.2.2.2.2.2 m.2.2.1 m.2.2.2.2.1 g.2 st
            | none => none) = some L := ha2
          split at ha2
          · rename_i mm hmm
            have hgq := z_beq hb2
            obtain ⟨mm2, k1, k2, k3⟩ := (hKS.2.2.1 q hm).2.2 hk1
            rw [← hgq, hmm] at k1
            cases k1
            rw [hi] at k2
            exact z_r_inv hg hx hb hml hD hsz hXp hX (hok g (List.mem_filterMap.mpr ⟨a, ha, hg2⟩) _ hmm) k2 hKS.2.2.2.2.2.1 k3 (by rw [hk2]; exact hd) ha2 hall
          · cases ha2
      · cases ha2
  · cases h
end ZSTEP
