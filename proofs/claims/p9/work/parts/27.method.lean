/-! A method by its certificate. -/
abbrev zCe : Type := zK × List zCu × Nat
def z_room (g : zSig) : Room := { frames := (g_rm g).1, cells := (g_mk g).1, slots := (g_mk g).2, locals := (g_rm g).2 }
def z_finV (TY : List zTy) (cl : List vw_C) (g : zSig) (ws : List Nat) (ret : Option FieldType) (st : zS) : Bool := (z_S st).isEmpty && ret.isNone && z_ret TY cl g ws st none
def z_chk (TY : List zTy) (PHI : List (List Nat)) (cl : List vw_C) (FT : Nat → Nat → FieldType) (MT : List zM) (SG : List (Nat × zSig)) (RO PHS : List Nat) (mm : zM) (g : zSig) (ce : zCe) : Bool := match z_ent TY cl FT mm.2.2.1 g with
  | some (st0, ws) => z_run (z_stp TY PHI cl FT MT SG RO PHS (z_room g) (g_pur g) mm.2.2.1 ce.1 mm.2.1 (z_finV TY cl g ws mm.2.2.2.1) (z_iret TY cl g ws mm.2.2.2.1)) (z_cut ce.2.1 (z_n st0) none) ce.2.2 0 st0 &&
    ce.2.1.all (fun k => k.2.2.2.2.all (fun q => Nat.blt q.1 (z_n k.2.1)) && z_run (z_stp TY PHI cl FT MT SG RO PHS (z_room g) (g_pur g) mm.2.2.1 ce.1 mm.2.1 (z_finV TY cl g ws mm.2.2.2.1) (z_iret TY cl g ws mm.2.2.2.1)) (z_cut ce.2.1 (z_n st0) (some k.2.2.2)) ce.2.2 k.1 k.2.1)
  | none => false
section ZMETHOD
variable {p : Program} {l : Launch} {e : Env} {R : Room} {s : State} {m : MethodId} {args : Array Value} {below : List Frame} {meth : Method} {c : Code} {Q : State → Prop} {cc : ByteArray} {pc : Nat}
variable {OB : Nat → Nat} {D : va_G} {DA : Nat → ClassId} {cl : List vw_C} {FT : Nat → Nat → FieldType} {TY : List zTy} {PHI : List (List Nat)} {sz : Nat} {raw : Option Nat} {pu : Bool} {T0 : zTp} {H0 : Heap} {env0 : List Value} {nL : Nat} {st st' : zS} {KXf : (Nat → Nat) → Nat → State → Heap → Prop} {good : Nat → zS → Prop}
variable {Ts TBL : List Cond} {own : String} {MT : List zM} {SG : List (Nat × zSig)} {RO PHS : List Nat} {K : zK}
theorem z_spl_ok (hg : z_Good p l e R s m args below meth c Q OB D DA cl TY PHI sz raw pu T0 H0 env0 nL good) {d : Nat} {t : Int} {L : List zS} (h : z_spl st d t = some L) (hall : ∀ s ∈ L, good pc s) : good pc st := by
  refine (hg _ _).mpr fun T H locs env ls stk hs => ?_
  unfold z_spl at h
  split at h
  · rename_i r hr
    cases h
    obtain ⟨v, e1, x, rfl, hx⟩ := z_get_ok hs.2.2.2.2.1 hr
    have fin : ∀ r2 : zR, z_in r2 x → z_mor st (z_S st) [(d, .inl r2)] [] ∈ (cond (z_ile r.1 t) [z_mor st (z_S st) [(d, .inl (r.1, z_min r.2 t))] []] [] ++ cond (z_ile (t + 1) r.2) [z_mor st (z_S st) [(d, .inl (z_max r.1 (t + 1), r.2))] []] []) → W p l e R s m args below meth c H locs (z_C st).1 (z_C st).2 Q (F0 m pc ls stk) := by
      intro r2 h2 hm
      refine (hg _ _).mp (hall _ hm) T H locs env ls stk (z_sat_mor hs hs.2.2.2.1 (fun q hq => ?_) (fun q hq => absurd hq List.not_mem_nil))
      rw [List.mem_singleton.mp hq]; exact ⟨_, e1, z_vi h2⟩
    rcases Int.lt_or_le t x.toInt with q | q
    · refine fin (z_max r.1 (t + 1), r.2) ⟨z_max_le hx.1 (by omega), hx.2⟩ ?_
      have : z_ile (t + 1) r.2 = true := decide_eq_true (by have := hx.2; omega)
      rw [this]
      exact List.mem_append_right _ (List.mem_singleton.mpr rfl)
    · refine fin (r.1, z_min r.2 t) ⟨hx.1, z_min_ge hx.2 q⟩ ?_
      have : z_ile r.1 t = true := decide_eq_true (by have := hx.1; omega)
      rw [this]
      exact List.mem_append_left _ (List.mem_singleton.mpr rfl)
  · cases h
theorem z_tig_ok (hg : z_Good p l e R s m args below meth c Q OB D DA cl TY PHI sz raw pu T0 H0 env0 nL good) {d f : Nat} {L : List zS} (h : z_tig st d f = some L) (hall : ∀ s ∈ L, good pc s) : good pc st := by
  refine (hg _ _).mpr fun T H locs env ls stk hs => ?_
  unfold z_tig at h
  split at h
  · rename_i r q k hr hq hk
    cases h
    obtain ⟨v, e1, x, rfl, hx⟩ := z_get_ok hs.2.2.2.2.1 hr
    obtain ⟨w, e2, y, rfl, hy⟩ := z_get_ok hs.2.2.2.2.1 hq
    obtain ⟨vx, g1, g2⟩ := z_lbs_ok hs.2.2.2.2.2.2.2.1 hk e2
    rw [e1] at g1
    cases g1
    refine (hg _ _).mp (hall _ (List.mem_singleton.mpr rfl)) T H locs env ls stk (z_sat_mor hs hs.2.2.2.1 (fun q2 hq2 => ?_) (fun q2 hq2 => absurd hq2 List.not_mem_nil))
    rw [List.mem_singleton.mp hq2]
    exact ⟨_, e1, z_vi ⟨hx.1, z_min_ge hx.2 (by have := hy.2; omega)⟩⟩
  · cases h
theorem z_act_ok (hg : z_Good p l e R s m args below meth c Q OB D DA cl TY PHI sz raw pu T0 H0 env0 nL good) (hPH : ∀ a ∈ PHS, z_phok TY PHI a = true) {q : Nat × Nat × Int} {L : List zS} (h : z_act TY PHI cl PHS pu q st = some L) (hall : ∀ s ∈ L, good pc s) : good pc st := by
  unfold z_act at h
  split at h
  · cases hp : pu with
    | true => rw [hp] at h; cases h
    | false =>
      rw [hp] at h
      have h : (match TY[q.2.1]? with
        | some (.inl o) => (match cl[o.1]? with
          | some r => cond (Nat.beq o.2.length r.2.2) ((z_pub TY st 0 q.2.1).map (fun s => [s])) none
          | none => none)
        | _ => none) = some L := h
      split at h
      · rename_i o ho
        split at h
        · rename_i r hr
          cases hb : Nat.beq o.2.length r.2.2 with
          | false => rw [hb] at h; cases h
          | true =>
            rw [hb] at h
            cases hz : z_pub TY st 0 q.2.1 with
            | none => rw [hz] at h; cases h
            | some s1 =>
              rw [hz] at h
              cases h
              refine z_pub_ok hp hg (fun ci fl h1 r2 h2 => ?_) hz (hall _ (List.mem_singleton.mpr rfl))
              rw [ho] at h1
              cases h1
              rw [hr] at h2
              cases h2
              exact z_beq hb
        · cases h
      · cases h
  · cases hp : (pu || !(PHS.any (fun x => Nat.beq x q.2.1))) with
    | true => rw [hp] at h; cases h
    | false =>
      rw [hp] at h
      rw [Bool.or_eq_false_iff] at hp
      obtain ⟨p1, p2⟩ := hp
      have p3 : PHS.any (fun x => Nat.beq x q.2.1) = true := by simpa using p2
      obtain ⟨a, ha, ha2⟩ := List.any_eq_true.mp p3
      have hph := hPH a ha
      rw [z_beq ha2] at hph
      cases hnb : Nat.beq (z_ph st) q.2.1 with
      | true =>
        rw [hnb] at h
        cases h
        exact hall _ (List.mem_singleton.mpr rfl)
      | false =>
        rw [hnb] at h
        cases hz : z_rty PHI st q.2.1 with
        | none => rw [hz] at h; cases h
        | some s1 =>
          rw [hz] at h
          cases h
          exact z_rty_ok p1 hg hph hz (hall _ (List.mem_singleton.mpr rfl))
  · split at h
    · exact z_spl_ok hg h hall
    · cases h
  · split at h
    · exact z_tig_ok hg h hall
    · cases h
  · split at h
    · exact z_spl_ok hg h hall
    · cases h
theorem z_fmp_ok {α : Type} {f : zS → Option (List α)} : ∀ {L : List zS} {r : List α}, z_fmp f L = some r → ∀ s ∈ L, ∃ a, f s = some a ∧ ∀ x ∈ a, x ∈ r
  | [], _, _, s, hs => absurd hs List.not_mem_nil
  | x :: L, r, h, s, hs => by
    unfold z_fmp at h
    split at h
    · rename_i a b ha hb
      cases h
      rcases List.mem_cons.mp hs with rfl | hs
      · exact ⟨a, ha, fun y hy => List.mem_append_left _ hy⟩
      · obtain ⟨a2, h1, h2⟩ := z_fmp_ok hb s hs
        exact ⟨a2, h1, fun y hy => List.mem_append_right _ (h2 y hy)⟩
    · cases h
theorem z_acts_ok (hg : z_Good p l e R s m args below meth c Q OB D DA cl TY PHI sz raw pu T0 H0 env0 nL good) (hPH : ∀ a ∈ PHS, z_phok TY PHI a = true) : ∀ {A : List (Nat × Nat × Nat × Int)} {st : zS} {L : List zS}, z_acts TY PHI cl PHS pu A pc st = some L → (∀ s ∈ L, good pc s) → good pc st
  | [], st, L, h, hall => by
    cases h
    exact hall _ (List.mem_singleton.mpr rfl)
  | q :: r, st, L, h, hall => by
    unfold z_acts at h
    cases hb : Nat.beq q.1 pc with
    | false => rw [hb] at h; exact z_acts_ok hg hPH h hall
    | true =>
      rw [hb] at h
      have h : (match z_act TY PHI cl PHS pu q.2 st with
        | some L => z_fmp (z_acts TY PHI cl PHS pu r pc) L
        | none => none) = some L := h
      split at h
      · rename_i L1 h1
        refine z_act_ok hg hPH h1 (fun s1 hs1 => ?_)
        obtain ⟨a, k1, k2⟩ := z_fmp_ok h s1 hs1
        exact z_acts_ok hg hPH k1 (fun x hx => hall x (k2 x hx))
      · cases h
theorem z_stp_ok (hg : z_Good p l e R s m args below meth c Q OB D DA cl TY PHI sz raw pu T0 H0 env0 nL good) (hx : p.tables.exec = Jvm.exec) (hb : c.code = cc) (hml : c.maxLocals = nL) (hD : z_Dy s m args Ts own D cl DA (z_tys DA)) (hsz : sz ≤ H0.size) (hXp : z_KXp sz (KXf OB sz)) (hX : KXf OB sz s H0) (hKS : z_KS Ts TBL cl FT own MT K) (hin : ∀ j, k_IN K = some j → meth.name = "<init>") (hPH : ∀ a ∈ PHS, z_phok TY PHI a = true)
    (hok : ∀ g ∈ (k_CA K).filterMap (fun a => SG[a.2]?), ∀ mm, MT[g.1]? = some mm → z_OK TBL cl FT TY PHI KXf mm.1 mm.2.1 mm.2.2.1 mm.2.2.2.1 g.2) {finV finI : zS → Bool} (hfV : ∀ pc st, decode cc pc = .ok (.return_, 1) → finV st = true → good pc st) (hfI : ∀ pc st, decode cc pc = .ok (.ireturn, 1) → finI st = true → good pc st)
    {L : List (Nat × zS)} (h : z_stp TY PHI cl FT MT SG RO PHS R pu nL K cc finV finI pc st = some L) (hall : ∀ q ∈ L, good q.1 q.2) : good pc st := by
  unfold z_stp at h
  split at h
  · rename_i L1 h1
    refine z_acts_ok hg hPH h1 (fun s1 hs1 => ?_)
    split at h
    · rename_i len hd
      cases hc : (Nat.beq len 1 && L1.all finV) with
      | false => rw [hc] at h; cases h
      | true =>
        rw [Bool.and_eq_true] at hc
        rw [z_beq hc.1] at hd
        exact hfV pc s1 hd (List.all_eq_true.mp hc.2 s1 hs1)
    · rename_i len hd
      cases hc : (Nat.beq len 1 && L1.all finI) with
      | false => rw [hc] at h; cases h
      | true =>
        rw [Bool.and_eq_true] at hc
        rw [z_beq hc.1] at hd
        exact hfI pc s1 hd (List.all_eq_true.mp hc.2 s1 hs1)
    · rename_i ins len _ _ hd
      obtain ⟨a, k1, k2⟩ := z_fmp_ok h s1 hs1
      exact z_step_ok hg hx hb hml hD hsz hXp hX hKS hin hok hd k1 (fun q hq => hall q (k2 q hq))
    · cases h
  · cases h
theorem z_run_ok {stp : Nat → zS → Option (List (Nat × zS))} {cut : Nat → zS → Bool} (hst : ∀ pc st L, stp pc st = some L → (∀ q ∈ L, good q.1 q.2) → good pc st) (hcut : ∀ pc st, cut pc st = true → good pc st) : ∀ {f pc : Nat} {st : zS}, z_run stp cut f pc st = true → good pc st
  | 0, _, _, h => by cases h
  | f + 1, pc, st, h => by
    unfold z_run at h
    split at h
    · rename_i L hL
      refine hst pc st L hL (fun q hq => ?_)
      have h1 := List.all_eq_true.mp h q hq
      rw [Bool.or_eq_true] at h1
      rcases h1 with h1 | h1
      · exact hcut _ _ h1
      · exact z_run_ok hst hcut h1
    · cases h
/-- a run with its cut points: 'ends' is what is known of the values with the first names -/
theorem z_runs {CU : List zCu} {ng : Nat} {stp : Nat → zS → Option (List (Nat × zS))} {fuel : Nat} {ends : List Value → Prop} (hends : ∀ env env' : List Value, ends env → (∀ i, i < ng → env'[i]? = env[i]?) → ends env')
    (hst : ∀ (env0 : List Value) (pc : Nat) (st : zS) (L : List (Nat × zS)), ends env0 → stp pc st = some L → (∀ q ∈ L, ∀ T H locs env ls stk, z_sat OB D DA cl TY PHI sz raw pu T0 H0 env0 nL q.2 T H locs env ls stk → W p l e R s m args below meth c H locs (z_C q.2).1 (z_C q.2).2 Q (F0 m q.1 ls stk)) → ∀ T H locs env ls stk, z_sat OB D DA cl TY PHI sz raw pu T0 H0 env0 nL st T H locs env ls stk → W p l e R s m args below meth c H locs (z_C st).1 (z_C st).2 Q (F0 m pc ls stk))
    (hCU : CU.all (fun k => k.2.2.2.2.all (fun q => Nat.blt q.1 (z_n k.2.1)) && z_run stp (z_cut CU ng (some k.2.2.2)) fuel k.1 k.2.1) = true) {st0 : zS} {pc0 : Nat} (h0 : z_run stp (z_cut CU ng none) fuel pc0 st0 = true) {env0 : List Value} (he : ends env0) {T : zTp} {H : Heap} {locs : List Loc} {env : List Value} {ls : Array Slot} {stk : List Value} (hng : ng ≤ env0.length)
    (hs : z_sat OB D DA cl TY PHI sz raw pu T0 H0 env0 nL st0 T H locs env ls stk) : W p l e R s m args below meth c H locs (z_C st0).1 (z_C st0).2 Q (F0 m pc0 ls stk) := by
  -- all cut points, by the rank
  have cuts : ∀ n : Nat, ∀ k ∈ CU, ∀ T H locs env ls stk, z_sat OB D DA cl TY PHI sz raw pu T0 H0 env nL k.2.1 T H locs env ls stk → ends env → ng ≤ env.length → 0 ≤ k.2.2.2.1 + z_ev env k.2.2.2.2 → (k.2.2.2.1 + z_ev env k.2.2.2.2).toNat ≤ n → W p l e R s m args below meth c H locs (z_C k.2.1).1 (z_C k.2.1).2 Q (F0 m k.1 ls stk) := by
    intro n
    induction n using Nat.strongRecOn with
    | ind n ih =>
      intro k hk T H locs env ls stk hs1 he1 hn1 hr0 hr1
      have hk2 := List.all_eq_true.mp hCU k hk
      rw [Bool.and_eq_true] at hk2
      refine z_run_ok (good := fun pc st => ∀ T H locs env2 ls stk, z_sat OB D DA cl TY PHI sz raw pu T0 H0 env nL st T H locs env2 ls stk → W p l e R s m args below meth c H locs (z_C st).1 (z_C st).2 Q (F0 m pc ls stk)) (fun pc st L h1 h2 => hst env pc st L he1 h1 h2) (fun pc st h1 => ?_) hk2.2 T H locs env ls stk hs1
      intro T2 H2 locs2 env2 ls2 stk2 hs2
      unfold z_cut at h1
      obtain ⟨k3, hk3, h3⟩ := List.any_eq_true.mp h1
      rw [Bool.and_eq_true] at h3
      obtain ⟨h3a, h3b⟩ := h3
      split at h3b
      · rename_i sg hsg
        simp only [Bool.and_eq_true] at h3b
        obtain ⟨⟨b1, b2⟩, b3⟩ := h3b
        obtain ⟨c1, c2, env3, c3, c4⟩ := z_sub2_ok b1 hs2
        have gh : ∀ i, i < ng → env3[i]? = env[i]? := by
          intro i hi
          have := List.all_eq_true.mp b2 i (List.mem_range.mpr hi)
          split at this
          · rename_i j hj
            obtain ⟨w, hw⟩ := hs2.2.1
            rw [c3 _ _ hj, z_beq this, hw, List.getElem?_append_left (by omega)]
          · cases this
        unfold z_rnk at b3
        split at b3
        · rename_i t ht
          rw [Bool.and_eq_true] at b3
          obtain ⟨d1, d2⟩ := b3
          have e3 := z_ev_map c3 ht
          obtain ⟨w, hw⟩ := hs2.2.1
          have e4 : z_ev env2 k.2.2.2.2 = z_ev env k.2.2.2.2 := by
            rw [hw]
            refine z_ev_pre ?_
            rw [hs1.1]; exact hk2.1
          have lo : 0 ≤ k3.2.2.2.1 + z_ev env3 k3.2.2.2.2 := by
            split at d1
            · rename_i b hb
              have := z_lw_ok hs2 hb
              have := z_ile_ok d1
              rw [e3]; omega
            · cases d1
          have lt : k3.2.2.2.1 + z_ev env3 k3.2.2.2.2 < k.2.2.2.1 + z_ev env k.2.2.2.2 := by
            have d2 : (match z_lw st 12 (k.2.2.2.2 ++ t.map (fun q => (q.1, -q.2))) with
              | some b => z_ile 1 (k.2.2.2.1 - k3.2.2.2.1 + b)
              | none => false) = true := d2
            split at d2
            · rename_i b hb
              have h5 := z_lw_ok hs2 hb
              have h6 := z_ile_ok d2
              rw [z_ev_app, z_ev_neg, e4] at h5
              rw [e3]; omega
            · cases d2
          have hlen : ng ≤ env3.length := by
            rcases Nat.eq_zero_or_pos ng with h | h
            · omega
            · have h7 := gh (ng - 1) (by omega)
              have h8 : ng - 1 < env.length := by omega
              rw [List.getElem?_eq_getElem h8] at h7
              have := (List.getElem?_eq_some_iff.mp h7).1
              omega
          have := ih (k3.2.2.2.1 + z_ev env3 k3.2.2.2.2).toNat (by omega) k3 hk3 T2 H2 locs2 env3 ls2 stk2 c4 (hends env env3 he1 gh) hlen lo (Nat.le_refl _)
          rw [z_beq h3a] at this
          exact W.widen c1 c2 this
        · cases b3
      · cases h3b
  refine z_run_ok (good := fun pc st => ∀ T H locs env2 ls stk, z_sat OB D DA cl TY PHI sz raw pu T0 H0 env0 nL st T H locs env2 ls stk → W p l e R s m args below meth c H locs (z_C st).1 (z_C st).2 Q (F0 m pc ls stk)) (fun pc st L h1 h2 => hst env0 pc st L he h1 h2) (fun pc st h1 => ?_) h0 T H locs env ls stk hs
  intro T2 H2 locs2 env2 ls2 stk2 hs2
  unfold z_cut at h1
  obtain ⟨k3, hk3, h3⟩ := List.any_eq_true.mp h1
  rw [Bool.and_eq_true] at h3
  obtain ⟨h3a, h3b⟩ := h3
  split at h3b
  · rename_i sg hsg
    simp only [Bool.and_eq_true] at h3b
    obtain ⟨⟨b1, b2⟩, b3⟩ := h3b
    obtain ⟨c1, c2, env3, c3, c4⟩ := z_sub2_ok b1 hs2
    have gh : ∀ i, i < ng → env3[i]? = env0[i]? := by
      intro i hi
      have := List.all_eq_true.mp b2 i (List.mem_range.mpr hi)
      split at this
      · rename_i j hj
        obtain ⟨w, hw⟩ := hs2.2.1
        rw [c3 _ _ hj, z_beq this, hw, List.getElem?_append_left (by omega)]
      · cases this
    unfold z_rnk at b3
    split at b3
    · rename_i t ht
      rw [Bool.and_eq_true] at b3
      obtain ⟨d1, d2⟩ := b3
      have e3 := z_ev_map c3 ht
      have lo : 0 ≤ k3.2.2.2.1 + z_ev env3 k3.2.2.2.2 := by
        split at d1
        · rename_i b hb
          have := z_lw_ok hs2 hb
          have := z_ile_ok d1
          rw [e3]; omega
        · cases d1
      have hlen : ng ≤ env3.length := by
        rcases Nat.eq_zero_or_pos ng with h | h
        · omega
        · have h7 := gh (ng - 1) (by omega)
          have h8 : ng - 1 < env0.length := by omega
          rw [List.getElem?_eq_getElem h8] at h7
          have := (List.getElem?_eq_some_iff.mp h7).1
          omega
      have := cuts _ k3 hk3 T2 H2 locs2 env3 ls2 stk2 c4 (hends env0 env3 he gh) hlen lo (Nat.le_refl _)
      rw [z_beq h3a] at this
      exact W.widen c1 c2 this
    · cases b3
  · cases h3b
end ZMETHOD
