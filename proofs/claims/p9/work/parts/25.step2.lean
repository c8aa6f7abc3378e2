/-! A step is sound. -/
section ZSTEP2
variable {p : Program} {l : Launch} {e : Env} {R : Room} {s : State} {m : MethodId} {args : Array Value} {below : List Frame} {meth : Method} {c : Code} {Q : State → Prop} {cc : ByteArray} {pc : Nat}
variable {OB : Nat → Nat} {D : va_G} {DA : Nat → ClassId} {cl : List vw_C} {FT : Nat → Nat → FieldType} {TY : List zTy} {PHI : List (List Nat)} {sz : Nat} {raw : Option Nat} {pu : Bool} {T0 : zTp} {H0 : Heap} {env0 : List Value} {nL : Nat} {st st' : zS} {KXf : (Nat → Nat) → Nat → State → Heap → Prop} {good : Nat → zS → Prop}
variable {Ts TBL : List Cond} {own : String} {MT : List zM} {SG : List (Nat × zSig)} {RO : List Nat} {K : zK}
theorem z_r_bin (hg : z_Good p l e R s m args below meth c Q OB D DA cl TY PHI sz raw pu T0 H0 env0 nL good) {f : zR → zR → zR} {op : Int32 → Int32 → Int32} (hf : ∀ a b x y, z_in a x → z_in b y → z_in (f a b) (op x y)) {k1 : Nat}
    (row : ∀ {H : Heap} {locs : List Loc} {cells slots : Nat} {ls : Array Slot} {rest : List Value} {x y : Int32}, W p l e R s m args below meth c H locs cells slots Q (F0 m k1 ls (.int (op x y) :: rest)) → W p l e R s m args below meth c H locs cells slots Q (F0 m pc ls (.int y :: .int x :: rest))) (h : z_bin f st = some st') (k : good k1 st') : good pc st := by
  refine (hg _ _).mpr fun T H locs env ls stk hs => ?_
  obtain ⟨x, y, kk, rfl, h1, h2⟩ := z_bin_ok hf h hs
  have := (hg _ _).mp k T H locs _ ls _ h2
  rw [h1] at this
  exact row this
theorem z_r_bin0 (hg : z_Good p l e R s m args below meth c Q OB D DA cl TY PHI sz raw pu T0 H0 env0 nL good) {f : zR → zR → zR} {op : Int32 → Int32 → Int32} (hf : ∀ a b x y, z_in a x → z_in b y → z_in (f a b) (op x y)) {k1 : Nat}
    (row : ∀ {H : Heap} {locs : List Loc} {cells slots : Nat} {ls : Array Slot} {rest : List Value} {x y : Int32}, ¬ y = 0 → W p l e R s m args below meth c H locs cells slots Q (F0 m k1 ls (.int (op x y) :: rest)) → W p l e R s m args below meth c H locs cells slots Q (F0 m pc ls (.int y :: .int x :: rest))) (h : z_bin0 f st = some st') (k : good k1 st') : good pc st := by
  refine (hg _ _).mpr fun T H locs env ls stk hs => ?_
  obtain ⟨x, y, kk, rfl, h0, h1, h2⟩ := z_bin0_ok hf h hs
  have := (hg _ _).mp k T H locs _ ls _ h2
  rw [h1] at this
  exact row h0 this
theorem z_r_un (hg : z_Good p l e R s m args below meth c Q OB D DA cl TY PHI sz raw pu T0 H0 env0 nL good) {f : zR → zR} {op : Int32 → Int32} (hf : ∀ a x, z_in a x → z_in (f a) (op x)) {k1 : Nat}
    (row : ∀ {H : Heap} {locs : List Loc} {cells slots : Nat} {ls : Array Slot} {rest : List Value} {x : Int32}, W p l e R s m args below meth c H locs cells slots Q (F0 m k1 ls (.int (op x) :: rest)) → W p l e R s m args below meth c H locs cells slots Q (F0 m pc ls (.int x :: rest))) (h : z_un f st = some st') (k : good k1 st') : good pc st := by
  refine (hg _ _).mpr fun T H locs env ls stk hs => ?_
  obtain ⟨x, kk, rfl, h1, h2⟩ := z_un_ok hf h hs
  have := (hg _ _).mp k T H locs _ ls _ h2
  rw [h1] at this
  exact row this
theorem z_r_obi (hg : z_Good p l e R s m args below meth c Q OB D DA cl TY PHI sz raw pu T0 H0 env0 nL good) (hx : p.tables.exec = Jvm.exec) (hb : c.code = cc) (hml : c.maxLocals = nL) (hts : ∀ w ∈ Ts, w.before args s = true) (hown : s.vm.findClass own = some m.cls) (hKS : z_KS Ts TBL cl FT own MT K) {i : Nat} (hd : decode cc pc = .ok (.invokespecial i, 3)) (h : z_obi R K i st = some st') (k : good (pc + 3) st') : good pc st := by
  refine (hg _ _).mpr fun T H locs env ls stk hs => ?_
  unfold z_obi at h
  split at h
  · rename_i d S q hS hq
    have hm := List.mem_of_find?_eq_some hq
    have hp := List.find?_some hq
    rw [Bool.and_eq_true] at hp
    have hi : q.1 = i := z_beq hp.1
    obtain ⟨w1, w2, w3⟩ := (hKS.2.2.1 q hm).1 (z_beq hp.2)
    rw [hi] at w1
    cases hc : (z_isr st d && Nat.ble 1 R.frames) with
    | false => rw [hc] at h; cases h
    | true =>
      rw [hc] at h
      rw [Bool.and_eq_true] at hc
      have h : (match z_csum st S with
        | some n => cond (Nat.ble (n + 12) R.locals) (some (z_stS st S)) none
        | none => none) = some st' := h
      split at h
      · rename_i n hn
        obtain ⟨h1, rfl⟩ := z_cond h
        obtain ⟨v, kk, rfl, e1, hk⟩ := z_stk_cons hS hs.2.2.2.1
        obtain ⟨a, e2⟩ := z_isr_ok hc.1 hs
        rw [e1] at e2
        cases e2
        have hcat := z_csum_ok hn hs hk
        have hle := Nat.le_of_ble_eq_true h1
        have hlsz : ls.size = nL := by obtain ⟨lv, z1, _⟩ := hs.2.2.1; exact z1.1
        refine W.objInit hx hb hown (hts _ w1) (hts _ w2) (hts _ w3) rfl (by show ls.size = c.maxLocals; rw [hlsz, hml]) rfl hd (Nat.le_of_ble_eq_true hc.2) (by show 2 * 0 + _ + 12 ≤ _; rw [hcat]; omega) ?_
        exact (hg _ _).mp k T H locs env ls _ (z_sat_stS hs hk)
      · cases h
  · cases h
set_option maxHeartbeats 4000000 in
theorem z_step_ok (hg : z_Good p l e R s m args below meth c Q OB D DA cl TY PHI sz raw pu T0 H0 env0 nL good) (hx : p.tables.exec = Jvm.exec) (hb : c.code = cc) (hml : c.maxLocals = nL) (hD : z_Dy s m args Ts own D cl DA (z_tys DA)) (hsz : sz ≤ H0.size) (hXp : z_KXp sz (KXf OB sz)) (hX : KXf OB sz s H0) (hKS : z_KS Ts TBL cl FT own MT K) (hin : ∀ j, k_IN K = some j → meth.name = "<init>")
    (hok : ∀ g ∈ (k_CA K).filterMap (fun a => SG[a.2]?), ∀ mm, MT[g.1]? = some mm → z_OK TBL cl FT TY PHI KXf mm.1 mm.2.1 mm.2.2.1 mm.2.2.2.1 g.2) {ins : Instr} {len : Nat} (hd : decode cc pc = .ok (ins, len)) {L : List (Nat × zS)} (h : z_step TY PHI cl FT MT SG RO R pu nL K pc ins len st = some L) (hall : ∀ q ∈ L, good q.1 q.2) : good pc st := by
  have hpu : ∀ {o : Option (List (Nat × zS))}, cond pu none o = some L → pu = false ∧ o = some L := by
    intro o ho
    cases hq : pu with
    | true => rw [hq] at ho; cases ho
    | false => rw [hq] at ho; exact ⟨rfl, ho⟩
  have hini : ∀ j r, k_IN K = some j → cl[j]? = some r → meth.name = "<init>" ∧ r.1 = own := fun j r h1 h2 => ⟨hin j h1, hKS.2.2.2.2.2.2 j r h1 h2⟩
  unfold z_step at h
  split at h
  · obtain ⟨rfl, s1, h1, k⟩ := z_one_ok h hall; exact z_r_iconst hg hx hb hd h1 k
  · obtain ⟨rfl, s1, h1, k⟩ := z_one_ok h hall; exact z_r_bip hg hx hb hd h1 k
  · obtain ⟨rfl, s1, h1, k⟩ := z_one_ok h hall; exact z_r_sip hg hx hb hd h1 k
  · obtain ⟨rfl, s1, h1, k⟩ := z_one_ok h hall
    split at h1
    · rename_i q hq
      have hq1 := List.find?_some hq
      have hi := z_beq hq1
      have hc := hD.1 _ (hKS.2.2.2.1 q (List.mem_of_find?_eq_some hq))
      rw [hi] at hc
      exact z_r_ldc hg hx hb hD.2.1 hc hd h1 k
    · cases h1
  · obtain ⟨rfl, s1, h1, k⟩ := z_one_ok h hall
    split at h1
    · rename_i q hq
      have hq1 := List.find?_some hq
      have hi := z_beq hq1
      have hc := hD.1 _ (hKS.2.2.2.1 q (List.mem_of_find?_eq_some hq))
      rw [hi] at hc
      exact z_r_ldcw hg hx hb hD.2.1 hc hd h1 k
    · cases h1
  · obtain ⟨rfl, s1, h1, k⟩ := z_one_ok h hall; exact z_r_iload hg hx hb hd h1 k
  · obtain ⟨rfl, s1, h1, k⟩ := z_one_ok h hall; exact z_r_iload_n hg hx hb hd h1 k
  · obtain ⟨rfl, s1, h1, k⟩ := z_one_ok h hall; exact z_r_aload hg hx hb hd h1 k
  · obtain ⟨rfl, s1, h1, k⟩ := z_one_ok h hall; exact z_r_aload_n hg hx hb hd h1 k
  · obtain ⟨rfl, s1, h1, k⟩ := z_one_ok h hall; exact z_r_istore hg hx hb hd h1 k
  · obtain ⟨rfl, s1, h1, k⟩ := z_one_ok h hall; exact z_r_istore_n hg hx hb hd h1 k
  · obtain ⟨rfl, s1, h1, k⟩ := z_one_ok h hall; exact z_r_astore hg hx hb hd h1 k
  · obtain ⟨rfl, s1, h1, k⟩ := z_one_ok h hall; exact z_r_astore_n hg hx hb hd h1 k
  · obtain ⟨rfl, s1, h1, k⟩ := z_one_ok h hall; exact z_r_iinc hg hx hb hd h1 k
  · obtain ⟨rfl, s1, h1, k⟩ := z_one_ok h hall; exact z_r_dup hg hx hb hd h1 k
  · obtain ⟨rfl, s1, h1, k⟩ := z_one_ok h hall; exact z_r_dupx1 hg hx hb hd h1 k
  · obtain ⟨rfl, s1, h1, k⟩ := z_one_ok h hall; exact z_r_dup2 hg hx hb hd h1 k
  · obtain ⟨rfl, s1, h1, k⟩ := z_one_ok h hall; exact z_r_pop hg hx hb hd h1 k
  · obtain ⟨rfl, s1, h1, k⟩ := z_one_ok h hall
    refine (hg _ _).mpr fun T H locs env ls stk hs => ?_
    obtain ⟨x, y, kk, rfl, g1, g2⟩ := z_iadd_ok h1 hs
    have := (hg _ _).mp k T H locs _ ls _ g2
    rw [g1] at this
    exact lv_iadd hx hb hd this
  · obtain ⟨rfl, s1, h1, k⟩ := z_one_ok h hall
    refine (hg _ _).mpr fun T H locs env ls stk hs => ?_
    obtain ⟨x, y, kk, rfl, g1, g2⟩ := z_isub_ok h1 hs
    have := (hg _ _).mp k T H locs _ ls _ g2
    rw [g1] at this
    exact lv_isub hx hb hd this
  · obtain ⟨rfl, s1, h1, k⟩ := z_one_ok h hall; exact z_r_bin hg (fun a b x y => z_mul_ok) (fun w => lv_imul hx hb hd w) h1 k
  · obtain ⟨rfl, s1, h1, k⟩ := z_one_ok h hall; exact z_r_bin0 hg (fun a b x y => z_div_ok) (fun h0 w => lv_idiv hx hb hd h0 w) h1 k
  · obtain ⟨rfl, s1, h1, k⟩ := z_one_ok h hall; exact z_r_bin0 hg (op := fun x y => x - x / y * y) (fun a b x y => z_rem_ok) (fun h0 w => lv_irem hx hb hd h0 w) h1 k
  · obtain ⟨rfl, s1, h1, k⟩ := z_one_ok h hall; exact z_r_bin hg (fun a b x y => z_and_ok) (fun w => lv_iand hx hb hd w) h1 k
  · obtain ⟨rfl, s1, h1, k⟩ := z_one_ok h hall; exact z_r_bin hg (fun a b x y => z_or_ok) (fun w => lv_ior hx hb hd w) h1 k
  · obtain ⟨rfl, s1, h1, k⟩ := z_one_ok h hall; exact z_r_bin hg (fun a b x y => z_xor_ok) (fun w => lv_ixor hx hb hd w) h1 k
  · obtain ⟨rfl, s1, h1, k⟩ := z_one_ok h hall; exact z_r_bin hg (op := fun x y => x <<< (y &&& 31)) (fun a b x y => z_shl_ok) (fun w => lv_ishl hx hb hd w) h1 k
  · obtain ⟨rfl, s1, h1, k⟩ := z_one_ok h hall; exact z_r_bin hg (op := fun x y => x >>> (y &&& 31)) (fun a b x y => z_shr_ok) (fun w => lv_ishr hx hb hd w) h1 k
  · obtain ⟨rfl, s1, h1, k⟩ := z_one_ok h hall; exact z_r_bin hg (op := fun x y => (x.toUInt32 >>> (y.toUInt32 &&& Int32.toUInt32 31)).toInt32) (fun a b x y => z_ushr_ok) (fun w => lv_iushr hx hb hd rfl w) h1 k
  · obtain ⟨rfl, s1, h1, k⟩ := z_one_ok h hall; exact z_r_un hg (op := fun x => -x) (fun a x => z_neg_ok) (fun w => lv_ineg hx hb hd w) h1 k
  · obtain ⟨rfl, s1, h1, k⟩ := z_one_ok h hall; exact z_r_un hg (op := fun x => x.toInt8.toInt32) (fun a x => z_i2b_ok) (fun w => lv_i2b hx hb hd rfl w) h1 k
  · obtain ⟨rfl, s1, h1, k⟩ := z_one_ok h hall; exact z_r_un hg (op := fun x => (x.toUInt32 % 65536).toInt32) (fun a x => z_i2c_ok) (fun w => lv_i2c hx hb hd rfl w) h1 k
  · cases hl : Nat.beq len 3 with
    | false => rw [hl] at h; cases h
    | true => rw [hl] at h; rw [z_beq hl] at hd; exact z_r_icmp hg hx hb hd h hall
  · cases hl : Nat.beq len 3 with
    | false => rw [hl] at h; cases h
    | true => rw [hl] at h; rw [z_beq hl] at hd; exact z_r_icnd hg hx hb hd h hall
  · cases hl : Nat.beq len 3 with
    | false => rw [hl] at h; cases h
    | true =>
      rw [hl] at h; rw [z_beq hl] at hd
      rename_i off
      cases ht : z_to pc off with
      | none => rw [ht] at h; cases h
      | some t => rw [ht] at h; cases h; exact z_r_goto hg hx hb hd ht (hall _ (List.mem_singleton.mpr rfl))
  · exact z_r_tsw hg hx hb hd h hall
  · exact z_r_lsw hg hx hb hd h hall
  · obtain ⟨rfl, s1, h1, k⟩ := z_one_ok h hall; exact z_r_getf hg hx hb hKS.1 hD hd h1 k
  · obtain ⟨hp0, h⟩ := hpu h
    obtain ⟨rfl, s1, h1, k⟩ := z_one_ok h hall; exact z_r_putf hp0 hg hx hb hKS.1 hD hini hd h1 k
  · obtain ⟨rfl, s1, h1, k⟩ := z_one_ok h hall; exact z_r_iald hg hx hb hD hd h1 k
  · obtain ⟨rfl, s1, h1, k⟩ := z_one_ok h hall; exact z_r_bald hg hx hb hD hd h1 k
  · obtain ⟨rfl, s1, h1, k⟩ := z_one_ok h hall; exact z_r_lald hg hx hb hD hd h1 k
  · obtain ⟨hp0, h⟩ := hpu h
    obtain ⟨rfl, s1, h1, k⟩ := z_one_ok h hall; exact z_r_iast hp0 hg hx hb hD hd h1 k
  · obtain ⟨hp0, h⟩ := hpu h
    obtain ⟨rfl, s1, h1, k⟩ := z_one_ok h hall; exact z_r_bast hp0 hg hx hb hD hd h1 k
  · obtain ⟨hp0, h⟩ := hpu h
    obtain ⟨rfl, s1, h1, k⟩ := z_one_ok h hall; exact z_r_last hp0 hg hx hb hD hd h1 k
  · obtain ⟨rfl, s1, h1, k⟩ := z_one_ok h hall; exact z_r_alen hg hx hb hD hd h1 k
  · obtain ⟨hp0, h⟩ := hpu h
    obtain ⟨rfl, s1, h1, k⟩ := z_one_ok h hall
    split at h1
    · rename_i ek q he hq
      exact z_r_nwa hp0 hg hx hb hD hKS.2.2.2.2.1 hsz he hd h1 k
    · cases h1
  · obtain ⟨hp0, h⟩ := hpu h
    obtain ⟨rfl, s1, h1, k⟩ := z_one_ok h hall; exact z_r_new hp0 hg hx hb hKS.1 hD hKS.2.1 hsz hd h1 k
  · obtain ⟨rfl, s1, h1, k⟩ := z_one_ok h hall; exact z_r_lconst hg hx hb hd h1 k
  · obtain ⟨rfl, s1, h1, k⟩ := z_one_ok h hall; exact z_r_lshl hg hx hb hd h1 k
  · obtain ⟨rfl, s1, h1, k⟩ := z_one_ok h hall; exact z_r_lor hg hx hb hd h1 k
  · obtain ⟨rfl, s1, h1, k⟩ := z_one_ok h hall; exact z_r_lcmp hg hx hb hd h1 k
  · obtain ⟨rfl, L', h1, k⟩ := z_all_ok h hall
    exact z_calls_ok hg hx hb hml hD hsz hXp hX hKS hok (fun k hk => by rw [z_beq hk]; exact ⟨by omega, rfl⟩) hd h1 k
  · rename_i i
    cases hq : (k_LK K).any (fun q => Nat.beq q.1 i && Nat.beq q.2.1 8) with
    | true =>
      rw [hq] at h
      obtain ⟨hp0, h⟩ := hpu h
      obtain ⟨rfl, s1, h1, k⟩ := z_one_ok h hall
      obtain ⟨q, hm, hp⟩ := List.any_eq_true.mp hq
      rw [Bool.and_eq_true] at hp
      have hi : q.1 = i := z_beq hp.1
      obtain ⟨w1, w2, w3, w4⟩ := (hKS.2.2.1 q hm).2.1 (z_beq hp.2)
      rw [hi] at w1
      exact z_r_acp hp0 hg hx hb hml hD w1 w2 w3 w4 hd h1 k
    | false =>
      rw [hq] at h
      obtain ⟨rfl, L', h1, k⟩ := z_all_ok h hall
      refine z_calls_ok hg hx hb hml hD hsz hXp hX hKS hok (fun k hk => ?_) hd h1 k
      rw [Bool.or_eq_true] at hk
      rcases hk with hk | hk <;> rw [z_beq hk] <;> exact ⟨by omega, rfl⟩
  · split at h
    · rename_i s1 h1
      obtain ⟨rfl, s2, h2, k⟩ := z_one_ok h hall
      cases h2
      exact z_r_obi hg hx hb hml hD.1 hD.2.1 hKS hd h1 k
    · obtain ⟨rfl, L', h1, k⟩ := z_all_ok h hall
      refine z_calls_ok hg hx hb hml hD hsz hXp hX hKS hok (fun k hk => ?_) hd h1 k
      rw [Bool.or_eq_true] at hk
      rcases hk with hk | hk <;> rw [z_beq hk] <;> exact ⟨by omega, rfl⟩
  · cases h
end ZSTEP2
