/-! Acts ahead of a place; cut points, with ranks that fall. -/
def z_spl (st : zS) (d : Nat) (t : Int) : Option (List zS) := match z_get (z_V st) d with
  | some (.inl r) => some (cond (z_ile r.1 t) [z_mor st (z_S st) [(d, .inl (r.1, z_min r.2 t))] []] [] ++ cond (z_ile (t + 1) r.2) [z_mor st (z_S st) [(d, .inl (z_max r.1 (t + 1), r.2))] []] [])
  | _ => none
/-- a value is bound by another one's bound -/
def z_tig (st : zS) (d e : Nat) : Option (List zS) := match z_get (z_V st) d, z_get (z_V st) e, z_lbs (z_R st) 6 e d with
  | some (.inl r), some (.inl q), some k => some [z_mor st (z_S st) [(d, .inl (r.1, z_min r.2 (q.2 - k)))] []]
  | _, _, _ => none
def z_act (TY : List zTy) (PHI : List (List Nat)) (cl : List vw_C) (PHS : List Nat) (pu : Bool) (q : Nat × Nat × Int) (st : zS) : Option (List zS) := match q.1 with
  | 0 => cond pu none (match TY[q.2.1]? with
    | some (.inl o) => (match cl[o.1]? with
      | some r => cond (Nat.beq o.2.length r.2.2) ((z_pub TY st 0 q.2.1).map (fun s => [s])) none
      | none => none)
    | _ => none)
  | 1 => cond (pu || !(PHS.any (fun x => Nat.beq x q.2.1))) none (cond (Nat.beq (z_ph st) q.2.1) (some [st]) ((z_rty PHI st q.2.1).map (fun s => [s])))
  | 2 => (match z_loc (z_L st) q.2.1 with
    | some d => z_spl st d q.2.2
    | none => none)
  | 4 => (match z_loc (z_L st) q.2.1, z_loc (z_L st) q.2.2.toNat with
    | some d, some e => z_tig st d e
    | _, _ => none)
  | _ => (match (z_S st)[q.2.1]? with
    | some d => z_spl st d q.2.2
    | none => none)
def z_fmp {α : Type} (f : zS → Option (List α)) : List zS → Option (List α)
  | [] => some []
  | s :: L => match f s, z_fmp f L with
    | some a, some b => some (a ++ b)
    | _, _ => none
def z_acts (TY : List zTy) (PHI : List (List Nat)) (cl : List vw_C) (PHS : List Nat) (pu : Bool) : List (Nat × Nat × Nat × Int) → Nat → zS → Option (List zS)
  | [], _, st => some [st]
  | q :: r, pc, st => cond (Nat.beq q.1 pc) (match z_act TY PHI cl PHS pu q.2 st with
    | some L => z_fmp (z_acts TY PHI cl PHS pu r pc) L
    | none => none) (z_acts TY PHI cl PHS pu r pc st)
/-- a step with its acts; finV, finI: the ends -/
def z_stp (TY : List zTy) (PHI : List (List Nat)) (cl : List vw_C) (FT : Nat → Nat → FieldType) (MT : List zM) (SG : List (Nat × zSig)) (RO PHS : List Nat) (R : Room) (pu : Bool) (nL : Nat) (K : zK) (cc : ByteArray) (finV finI : zS → Bool) (pc : Nat) (st : zS) : Option (List (Nat × zS)) :=
  match z_acts TY PHI cl PHS pu (k_AC K) pc st with
  | some L => (match decode cc pc with
    | .ok (.return_, len) => cond (Nat.beq len 1 && L.all finV) (some []) none
    | .ok (.ireturn, len) => cond (Nat.beq len 1 && L.all finI) (some []) none
    | .ok (ins, len) => z_fmp (z_step TY PHI cl FT MT SG RO R pu nL K pc ins len) L
    | .error _ => none)
  | none => none
def z_run (stp : Nat → zS → Option (List (Nat × zS))) (cut : Nat → zS → Bool) : Nat → Nat → zS → Bool
  | 0, _, _ => false
  | f + 1, pc, st => match stp pc st with
    | some L => L.all (fun q => cut q.1 q.2 || z_run stp cut f q.1 q.2)
    | none => false
abbrev zLo : Type := Nat × Nat × Nat × Nat
abbrev zLin : Type := Int × List (Nat × Int)
abbrev zCu : Type := Nat × zS × List zLo × zLin
def z_sg1 (cur : zS) (acc : List Nat) (q : zLo) : Option Nat := match q.1 with
  | 0 => some q.2.1
  | 1 => z_loc (z_L cur) q.2.1
  | 2 => (z_S cur)[q.2.1]?
  | 3 => (match acc[q.2.1]? with
    | some a => z_ffind cur a q.2.2.1 q.2.2.2
    | none => none)
  | 4 => (match acc[q.2.1]?, acc[q.2.2.1]? with
    | some a, some j => z_efind cur a j
    | _, _ => none)
  | _ => ((z_V cur).find? (fun e => match e.2 with
    | .inl r => z_ile (q.2.1 : Int) r.1 && z_ile r.2 (q.2.1 : Int)
    | _ => false)).map (fun e => e.1)
def z_sgm (cur : zS) : List zLo → List Nat → Option (List Nat)
  | [], acc => some acc
  | q :: r, acc => match z_sg1 cur acc q with
    | some i => z_sgm cur r (acc ++ [i])
    | none => none
def z_seq (sg : List Nat) : List Nat → List Nat → Bool
  | [], [] => true
  | t :: L, i :: M => (match sg[t]? with
    | some j => Nat.beq j i
    | none => false) && z_seq sg L M
  | _, _ => false
/-- a bound of a difference: by steps, or by ranges -/
def z_kr (st : zS) (b a : Nat) (k : Int) : Bool := z_kx (z_R st) b a k || (match z_get (z_V st) b, z_get (z_V st) a with
  | some (.inl r), some (.inl q) => z_ile (q.2 + k) r.1
  | _, _ => false)
def z_sub2 (cur tgt : zS) (sg : List Nat) : Bool :=
  Nat.beq sg.length (z_n tgt) && sg.all (fun i => Nat.blt i (z_n cur)) && (z_L tgt).all (fun q => match z_loc (z_L cur) q.1, sg[q.2]? with
    | some d, some i => Nat.beq d i
    | _, _ => false) && z_seq sg (z_S tgt) (z_S cur) && (z_V tgt).all (fun q => match sg[q.1]? with
    | some i => (match z_get (z_V cur) i with
      | some c => z_le c q.2
      | none => false)
    | none => false) && (z_F tgt).all (fun q => match sg[q.1]?, sg[q.2.2.2]?, cur with
    | some a, some v, cur => (match z_ffind cur a q.2.1 q.2.2.1 with
      | some w => Nat.beq w v && (z_F cur).any (fun f => Nat.beq f.1 a && Nat.beq f.2.1 q.2.1 && Nat.beq f.2.2.1 q.2.2.1 && Nat.beq f.2.2.2 v)
      | none => false)
    | _, _, _ => false) && (z_E tgt).all (fun q => match sg[q.1]?, sg[q.2.1]?, sg[q.2.2]? with
    | some a, some j, some v => z_isi cur j && (match z_efind cur a j with
      | some w => Nat.beq w v
      | none => false)
    | _, _, _ => false) && (z_R tgt).all (fun q => match sg[q.1]?, sg[q.2.1]? with
    | some b, some a => z_isi cur b && z_isi cur a && z_kr cur b a q.2.2
    | _, _ => false) && (z_X tgt).isEmpty && Nat.ble (z_C cur).1 (z_C tgt).1 && Nat.ble (z_C cur).2 (z_C tgt).2 && Nat.beq (z_ph cur) (z_ph tgt)
def z_pick (st : zS) (x : Nat) (a : Int) : List (Nat × Int) → Option (Int × List (Nat × Int))
  | [] => none
  | q :: r => match (cond (z_ile q.2 (-a) && z_ile (-a) q.2 && z_isi st q.1) (cond (z_ile 0 a) (z_lbs (z_R st) 2 x q.1) (z_lbs (z_R st) 2 q.1 x)) none) with
    | some k => some (cond (z_ile 0 a) (a * k) (-a * k), r)
    | none => (match z_pick st x a r with
      | some w => some (w.1, q :: w.2)
      | none => none)
def z_lw (st : zS) : Nat → List (Nat × Int) → Option Int
  | _, [] => some 0
  | 0, _ :: _ => none
  | f + 1, q :: r => match z_get (z_V st) q.1 with
    | some (.inl v) => (match z_pick st q.1 q.2 r with
      | some w => (match z_lw st f w.2 with
        | some b => some (b + w.1)
        | none => none)
      | none => (match z_lw st f r with
        | some b => some (b + cond (z_ile 0 q.2) (q.2 * v.1) (q.2 * v.2))
        | none => none))
    | _ => none
def z_mapt (sg : List Nat) : List (Nat × Int) → Option (List (Nat × Int))
  | [] => some []
  | q :: r => match sg[q.1]?, z_mapt sg r with
    | some i, some L => some ((i, q.2) :: L)
    | _, _ => none
def z_rnk (cur : zS) (sg : List Nat) (src : Option zLin) (tgt : zLin) : Bool := match z_mapt sg tgt.2 with
  | some t => (match z_lw cur 12 t with
      | some b => z_ile 0 (tgt.1 + b)
      | none => false) && (match src with
      | none => true
      | some s => (match z_lw cur 12 (s.2 ++ t.map (fun q => (q.1, -q.2))) with
        | some b => z_ile 1 (s.1 - tgt.1 + b)
        | none => false))
  | none => false
def z_cut (CU : List zCu) (ng : Nat) (src : Option zLin) (pc : Nat) (cur : zS) : Bool := CU.any (fun k => Nat.beq k.1 pc && (match z_sgm cur k.2.2.1 [] with
  | some sg => z_sub2 cur k.2.1 sg && (List.range ng).all (fun i => match sg[i]? with
      | some j => Nat.beq j i
      | none => false) && z_rnk cur sg src k.2.2.2
  | none => false))
/-- the value of a linear form -/
def z_iv (env : List Value) (x : Nat) : Int := match env[x]? with
  | some (.int v) => v.toInt
  | _ => 0
def z_ev (env : List Value) : List (Nat × Int) → Int
  | [] => 0
  | q :: r => q.2 * z_iv env q.1 + z_ev env r
section ZCUTS
variable {OB : Nat → Nat} {D : va_G} {DA : Nat → ClassId} {cl : List vw_C} {FT : Nat → Nat → FieldType} {TY : List zTy} {PHI : List (List Nat)} {sz : Nat} {raw : Option Nat} {pu : Bool} {T0 : zTp} {H0 : Heap} {env0 : List Value} {nL : Nat} {st st' : zS} {T : zTp} {H : Heap} {locs : List Loc} {env : List Value} {ls : Array Slot} {stk : List Value} {good : Nat → zS → Prop}
theorem z_iv_int {x : Nat} {v : Int32} (h : env[x]? = some (.int v)) : z_iv env x = v.toInt := by unfold z_iv; rw [h]
theorem z_ile_not {a b : Int} (h : z_ile a b = false) : b < a := Int.not_le.mp (of_decide_eq_false h)
theorem z_pick_ok (hs : z_sat OB D DA cl TY PHI sz raw pu T0 H0 env0 nL st T H locs env ls stk) {x : Nat} {vx : Int32} (hx : env[x]? = some (.int vx)) {a : Int} : ∀ {L : List (Nat × Int)} {w : Int × List (Nat × Int)}, z_pick st x a L = some w → w.1 + z_ev env w.2 ≤ a * z_iv env x + z_ev env L
  | [], w, h => by cases h
  | q :: r, w, h => by
    unfold z_pick at h
    have hr := hs.2.2.2.2.2.2.2.1
    split at h
    · rename_i k hk
      cases h
      cases hc : (z_ile q.2 (-a) && z_ile (-a) q.2 && z_isi st q.1) with
      | false => rw [hc] at hk; cases hk
      | true =>
        rw [hc] at hk
        simp only [Bool.and_eq_true] at hc
        obtain ⟨vy, hy⟩ := z_isi_ok hc.2 hs
        have l1 := z_ile_ok hc.1.1
        have l2 := z_ile_ok hc.1.2
        have hq : q.2 = -a := by omega
        show cond (z_ile 0 a) (a * k) (-a * k) + z_ev env r ≤ a * z_iv env x + (q.2 * z_iv env q.1 + z_ev env r)
        rw [z_iv_int hx, z_iv_int hy, hq]
        cases ha : z_ile 0 a with
        | true =>
          rw [ha] at hk
          obtain ⟨v2, e1, e2⟩ := z_lbs_ok hr hk hx
          rw [hy] at e1
          cases e1
          have := Int.mul_le_mul_of_nonneg_left (show k ≤ vx.toInt - vy.toInt by omega) (z_ile_ok ha)
          rw [Int.mul_sub] at this
          show a * k + z_ev env r ≤ _
          rw [Int.neg_mul]
          omega
        | false =>
          rw [ha] at hk
          obtain ⟨v2, e1, e2⟩ := z_lbs_ok hr hk hy
          rw [hx] at e1
          cases e1
          have han := z_ile_not ha
          have := Int.mul_le_mul_of_nonneg_left (show k ≤ vy.toInt - vx.toInt by omega) (show 0 ≤ -a by omega)
          rw [Int.mul_sub] at this
          show -a * k + z_ev env r ≤ _
          simp only [Int.neg_mul] at this ⊢
          omega
    · split at h
      · rename_i w2 hw2
        cases h
        have ih := z_pick_ok hs hx hw2
        show w2.1 + (q.2 * z_iv env q.1 + z_ev env w2.2) ≤ a * z_iv env x + (q.2 * z_iv env q.1 + z_ev env r)
        omega
      · cases h
theorem z_lw_ok (hs : z_sat OB D DA cl TY PHI sz raw pu T0 H0 env0 nL st T H locs env ls stk) : ∀ {f : Nat} {L : List (Nat × Int)} {b : Int}, z_lw st f L = some b → b ≤ z_ev env L
  | f, [], b, h => by
    unfold z_lw at h
    cases h
    exact Int.le_refl _
  | 0, q :: r, b, h => by cases h
  | f + 1, q :: r, b, h => by
    unfold z_lw at h
    split at h
    · rename_i v hv
      obtain ⟨w, e1, x, rfl, hx⟩ := z_get_ok hs.2.2.2.2.1 hv
      split at h
      · rename_i w2 hw2
        have hp := z_pick_ok hs e1 hw2
        split at h
        · rename_i b2 hb2
          cases h
          have ih := z_lw_ok hs hb2
          show b2 + w2.1 ≤ q.2 * z_iv env q.1 + z_ev env r
          omega
        · cases h
      · split at h
        · rename_i b2 hb2
          cases h
          have ih := z_lw_ok hs hb2
          show b2 + cond (z_ile 0 q.2) (q.2 * v.1) (q.2 * v.2) ≤ q.2 * z_iv env q.1 + z_ev env r
          rw [z_iv_int e1]
          cases ha : z_ile 0 q.2 with
          | true =>
            have := Int.mul_le_mul_of_nonneg_left hx.1 (z_ile_ok ha)
            show b2 + q.2 * v.1 ≤ _
            omega
          | false =>
            have := Int.mul_le_mul_of_nonpos_left (show q.2 ≤ 0 by have := z_ile_not ha; omega) hx.2
            show b2 + q.2 * v.2 ≤ _
            omega
        · cases h
    · cases h
theorem z_ev_app {A B : List (Nat × Int)} : z_ev env (A ++ B) = z_ev env A + z_ev env B := by
  induction A with
  | nil => simp [z_ev]
  | cons q A ih =>
    show q.2 * z_iv env q.1 + z_ev env (A ++ B) = q.2 * z_iv env q.1 + z_ev env A + z_ev env B
    rw [ih]; omega
theorem z_ev_neg {A : List (Nat × Int)} : z_ev env (A.map (fun q => (q.1, -q.2))) = - z_ev env A := by
  induction A with
  | nil => simp [z_ev]
  | cons q A ih =>
    show -q.2 * z_iv env q.1 + z_ev env (A.map (fun q => (q.1, -q.2))) = -(q.2 * z_iv env q.1 + z_ev env A)
    rw [ih, Int.neg_mul]; omega
theorem z_ev_map {sg : List Nat} {env' : List Value} (he : ∀ (t i : Nat), sg[t]? = some i → env'[t]? = env[i]?) : ∀ {A B : List (Nat × Int)}, z_mapt sg A = some B → z_ev env' A = z_ev env B
  | [], B, h => by cases h; rfl
  | q :: A, B, h => by
    unfold z_mapt at h
    split at h
    · rename_i i L hi hL
      cases h
      have ih := z_ev_map he hL
      show q.2 * z_iv env' q.1 + z_ev env' A = q.2 * z_iv env i + z_ev env L
      rw [ih]
      unfold z_iv
      rw [he _ _ hi]
    · cases h
theorem z_ev_pre {w : List Value} : ∀ {A : List (Nat × Int)}, (A.all (fun q => Nat.blt q.1 env.length)) = true → z_ev (env ++ w) A = z_ev env A
  | [], _ => rfl
  | q :: A, h => by
    rw [List.all_cons, Bool.and_eq_true] at h
    have ih := z_ev_pre (w := w) h.2
    show q.2 * z_iv (env ++ w) q.1 + z_ev (env ++ w) A = q.2 * z_iv env q.1 + z_ev env A
    rw [ih]
    unfold z_iv
    rw [List.getElem?_append_left (z_blt h.1)]
theorem z_seq_ok {sg : List Nat} {env' : List Value} (he : ∀ (t i : Nat), sg[t]? = some i → env'[t]? = env[i]?) : ∀ {A B : List Nat} {k : List Value}, z_seq sg A B = true → z_stk env B k → z_stk env' A k
  | [], [], k, _, h => h
  | [], _ :: _, k, h, _ => by cases h
  | _ :: _, [], k, h, _ => by cases h
  | t :: A, i :: B, k, h, ⟨v, k', e1, e2, e3⟩ => by
    unfold z_seq at h
    rw [Bool.and_eq_true] at h
    obtain ⟨h1, h2⟩ := h
    split at h1
    · rename_i j hj
      exact ⟨v, k', e1, by rw [he _ _ hj, z_beq h1]; exact e2, z_seq_ok he h2 e3⟩
    · cases h1
/-- the state of a cut point holds, with its own names -/
theorem z_kr_int {x y : Nat} {n : Int} (h : (z_isi st x && z_isi st y && z_kr st x y n) = true) (hs : z_sat OB D DA cl TY PHI sz raw pu T0 H0 env0 nL st T H locs env ls stk) : ∃ vx vy : Int32, env[x]? = some (.int vx) ∧ env[y]? = some (.int vy) ∧ vy.toInt + n ≤ vx.toInt := by
  rw [Bool.and_eq_true] at h
  obtain ⟨h1, h2⟩ := h
  unfold z_kr at h2
  rw [Bool.or_eq_true] at h2
  rcases h2 with h2 | h2
  · exact z_kn_int (by rw [Bool.and_eq_true]; exact ⟨h1, h2⟩) hs
  · split at h2
    · rename_i r q hr hq
      obtain ⟨v, e1, x1, rfl, hx⟩ := z_get_ok hs.2.2.2.2.1 hr
      obtain ⟨w, e2, y1, rfl, hy⟩ := z_get_ok hs.2.2.2.2.1 hq
      refine ⟨x1, y1, e1, e2, ?_⟩
      have := z_ile_ok h2
      have a1 := hx.1
      have a2 := hy.2
      omega
    · cases h2
theorem z_sub2_ok {tgt : zS} {sg : List Nat} (h : z_sub2 st tgt sg = true) (hs : z_sat OB D DA cl TY PHI sz raw pu T0 H0 env0 nL st T H locs env ls stk) :
    (z_C st).1 ≤ (z_C tgt).1 ∧ (z_C st).2 ≤ (z_C tgt).2 ∧ ∃ env' : List Value, (∀ (t i : Nat), sg[t]? = some i → env'[t]? = env[i]?) ∧ z_sat OB D DA cl TY PHI sz raw pu T0 H0 env' nL tgt T H locs env' ls stk := by
  unfold z_sub2 at h
  simp only [Bool.and_eq_true] at h
  obtain ⟨⟨⟨⟨⟨⟨⟨⟨⟨⟨⟨a1, a2⟩, a3⟩, a4⟩, a5⟩, a6⟩, a7⟩, a8⟩, a9⟩, a10⟩, a11⟩, a12⟩ := h
  refine ⟨Nat.le_of_ble_eq_true a10, Nat.le_of_ble_eq_true a11, sg.map (fun i => env.getD i (.int 0)), ?_⟩
  have he : ∀ (t i : Nat), sg[t]? = some i → (sg.map (fun i => env.getD i (.int 0)))[t]? = env[i]? := by
    intro t i hi
    have hlt := z_blt (List.all_eq_true.mp a2 i (List.mem_of_getElem? hi))
    rw [← hs.1] at hlt
    rw [List.getElem?_map, hi, List.getElem?_eq_getElem hlt]
    simp [hlt]
  refine ⟨he, by rw [List.length_map]; exact z_beq a1, ⟨[], by rw [List.append_nil]⟩, ?_, z_seq_ok he a4 hs.2.2.2.1, fun q hq => ?_, fun q hq => ?_, fun q hq => ?_, fun q hq => ?_, ?_, ?_⟩
  · obtain ⟨lv, g1, g2, g3⟩ := hs.2.2.1
    refine ⟨lv, g1, g2, fun q hq => ?_⟩
    have h1 := List.all_eq_true.mp a3 q hq
    split at h1
    · rename_i d i hd hi
      obtain ⟨v, e1, e2⟩ := g3 _ (z_loc_mem hd)
      exact ⟨v, by rw [he _ _ hi, ← z_beq h1]; exact e1, e2⟩
    · cases h1
  · have h1 := List.all_eq_true.mp a5 q hq
    split at h1
    · rename_i i hi
      split at h1
      · rename_i c0 hc0
        obtain ⟨v, e1, e2⟩ := z_get_ok hs.2.2.2.2.1 hc0
        exact ⟨v, by rw [he _ _ hi]; exact e1, z_le_ok h1 e2⟩
      · cases h1
    · cases h1
  · have h1 := List.all_eq_true.mp a6 q hq
    split at h1
    · rename_i a v cur hia hiv
      split at h1
      · rename_i w hw
        rw [Bool.and_eq_true] at h1
        obtain ⟨f, hf, hf2⟩ := List.any_eq_true.mp h1.2
        simp only [Bool.and_eq_true] at hf2
        obtain ⟨ad, x, r, e1, e2, e3, e4, e5⟩ := hs.2.2.2.2.2.1 f hf
        rw [z_beq hf2.1.1.1] at e1
        rw [z_beq hf2.2] at e2
        rw [z_beq hf2.1.1.2] at e3 e5
        rw [z_beq hf2.1.2] at e4 e5
        exact ⟨ad, x, r, by rw [he _ _ hia]; exact e1, by rw [he _ _ hiv]; exact e2, e3, e4, e5⟩
      · cases h1
    · cases h1
  · have h1 := List.all_eq_true.mp a7 q hq
    split at h1
    · rename_i a j v hia hij hiv
      rw [Bool.and_eq_true] at h1
      obtain ⟨y, hy⟩ := z_isi_ok h1.1 hs
      have h2 := h1.2
      split at h2
      · rename_i w hw
        obtain ⟨ad, x, e1, e2, e3, e4⟩ := z_efind_ok hw hs hy
        rw [z_beq h2] at e2
        exact ⟨ad, y, x, by rw [he _ _ hia]; exact e1, by rw [he _ _ hij]; exact hy, e3, by rw [he _ _ hiv]; exact e2, e4⟩
      · cases h2
    · cases h1
  · have h1 := List.all_eq_true.mp a8 q hq
    split at h1
    · rename_i b a hib hia
      obtain ⟨vx, vy, e1, e2, e3⟩ := z_kr_int h1 hs
      exact ⟨vy, vx, by rw [he _ _ hib]; exact e1, by rw [he _ _ hia]; exact e2, e3⟩
    · cases h1
  · have : z_X tgt = [] := List.isEmpty_iff.mp a9
    show z_fx D cl T sz H0.size raw H _ (z_X tgt)
    rw [this]
    trivial
  · have := hs.2.2.2.2.2.2.2.2.2
    rw [z_beq a12] at this
    exact this
end ZCUTS
