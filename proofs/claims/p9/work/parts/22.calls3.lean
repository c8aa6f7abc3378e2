/-! A call, whole. -/
/-- words that go on holding -/
def z_gw : Cond → Bool
  | .methodLinkNest .. => true
  | w => goodWord w
theorem z_pay {big ws : List Cond} {args : Array Value} {s : State} (hts : ∀ w ∈ big, w.before args s = true) (h : ∀ w ∈ ws, w ∈ big ∧ z_gw w = true) : ∀ w ∈ ws, ∀ (a' : Array Value) (U : State), s.WarmedH U.vm → w.before a' U = true := by
  intro w hw a' U hW
  obtain ⟨h1, h2⟩ := h w hw
  unfold z_gw at h2
  split at h2
  · exact va_Nw.use rfl (va_Nw.warmM hW (va_Nw.of (A := args) rfl (hts _ h1)))
  · exact word_at hW (good_of_word h2) (hts _ h1)
def z_KXp (sz : Nat) (KX : State → Heap → Prop) : Prop := (∀ (s U : State) (H : Heap), KX s H → s.WarmedH U.vm → KX U H) ∧ (∀ (s : State) (H H1 : Heap), KX s H → H.size ≤ H1.size → (∀ q : Nat, q < H.size → ¬ sz ≤ q → H1[q]? = H[q]?) → KX s H1) ∧ (∀ (u U : State) (H : Heap), U.vm = u.vm → KX u H → KX U H)
def z_OK (TBL : List Cond) (cl : List vw_C) (FT : Nat → Nat → FieldType) (TY : List zTy) (PHI : List (List Nat)) (KXf : (Nat → Nat) → Nat → State → Heap → Prop) (y : MethodName) (bytes : ByteArray) (maxL : Nat) (ret : Option FieldType) (g : zSig) : Prop :=
  ∀ (l : Launch) (OB : Nat → Nat) (D : va_G) (DA : Nat → ClassId) (sz : Nat) (T : zTp), Met l y (Cond.code y bytes maxL ret :: TBL) { frames := (g_rm g).1, cells := (g_mk g).1, slots := (g_mk g).2, locals := (g_rm g).2 } (z_Pre OB D DA cl FT TY sz (KXf OB sz) g T) (z_Post OB D DA cl TY PHI sz g T) (g_mk g).1 (g_mk g).2 (fun q => sz ≤ q)
def z_lk (Ts : List Cond) (own : String) (kind i : Nat) (y : MethodName) (bytes : ByteArray) (maxL : Nat) (ret : Option FieldType) (np : Nat) : Prop :=
  Cond.code y bytes maxL ret ∈ Ts ∧ Cond.initialized y.cls ∈ Ts ∧ (y.cls ≠ "java/lang/invoke/MethodHandle" ∧ y.cls ≠ "java/lang/invoke/VarHandle") ∧ (parseMethodDescriptor y.desc).map (fun d => d.parameters.length) = some np ∧
  (match kind with
    | 0 => Cond.methodLink own i y ∈ Ts ∧ Cond.instanceMethod y ∈ Ts ∧ Cond.selects y.cls y y ∈ Ts
    | 1 => Cond.methodLink own i y ∈ Ts ∧ Cond.static y ∈ Ts
    | 2 => Cond.methodLink own i y ∈ Ts ∧ Cond.instanceMethod y ∈ Ts ∧ y.name = "<init>" ∧ ret = none
    | 4 => (∃ host, Cond.methodLinkNest own i y host ∈ Ts) ∧ Cond.static y ∈ Ts
    | _ => (∃ host, Cond.methodLinkNest own i y host ∈ Ts) ∧ Cond.instanceMethod y ∈ Ts ∧ y.name = "<init>" ∧ ret = none)
section ZCALLS3
variable {p : Program} {l : Launch} {e : Env} {R : Room} {s : State} {m : MethodId} {args : Array Value} {below : List Frame} {meth : Method} {c : Code} {Q : State → Prop} {cc : ByteArray} {pc : Nat}
variable {OB : Nat → Nat} {D : va_G} {DA : Nat → ClassId} {cl : List vw_C} {FT : Nat → Nat → FieldType} {TY : List zTy} {PHI : List (List Nat)} {sz : Nat} {raw : Option Nat} {pu : Bool} {T0 : zTp} {H0 : Heap} {env0 : List Value} {nL : Nat} {st st' : zS} {T : zTp} {H : Heap} {locs : List Loc} {env : List Value} {ls : Array Slot} {stk : List Value} {g : zSig} {KXf : (Nat → Nat) → Nat → State → Heap → Prop} {rest : List Value} {cells slots : Nat} {good : Nat → zS → Prop}
variable {Ts TBL : List Cond} {own : String} {y : MethodName} {bytes : ByteArray} {maxL np i : Nat} {ret : Option FieldType}
theorem z_nx3 (A : List Value) (x y z : Value) : (A ++ [x, y, z])[A.length]? = some x ∧ (A ++ [x, y, z])[A.length + 1]? = some y ∧ (A ++ [x, y, z])[A.length + 2]? = some z := ⟨by simp, by simp, by simp⟩
theorem z_rel2_ok {w gi : Nat} {h : zV × Option Int × Option Int} {w0 v : Value} (h1 : env[w]? = some v) (h2 : env[gi]? = some w0) (hlo : ∀ k, h.2.1 = some k → ∃ x y : Int32, w0 = .int x ∧ v = .int y ∧ x.toInt + k ≤ y.toInt) (hhi : ∀ k, h.2.2 = some k → ∃ x y : Int32, w0 = .int x ∧ v = .int y ∧ y.toInt ≤ x.toInt + k) : z_fr env (z_rel2 w gi h) := by
  intro q hq
  rcases List.mem_append.mp hq with hq | hq
  · cases hk : h.2.1 with
    | none => rw [hk] at hq; exact absurd hq List.not_mem_nil
    | some k =>
      rw [hk] at hq
      rw [List.mem_singleton.mp hq]
      obtain ⟨x, y, rfl, rfl, hxy⟩ := hlo k hk
      exact ⟨x, y, h1, h2, hxy⟩
  · cases hk : h.2.2 with
    | none => rw [hk] at hq; exact absurd hq List.not_mem_nil
    | some k =>
      rw [hk] at hq
      rw [List.mem_singleton.mp hq]
      obtain ⟨x, y, rfl, rfl, hxy⟩ := hhi k hk
      exact ⟨y, x, h2, h1, by show y.toInt + -k ≤ _; omega⟩
theorem z_emp_ok {k : zV} {v : Value} (hv : z_v OB T k v) : z_emp k = false := by
  match k, hv with
  | .inl r, ⟨x, _, h1, h2⟩ =>
    have : z_ile r.1 r.2 = true := decide_eq_true (Int.le_trans h1 h2)
    show (!(z_ile r.1 r.2)) = false
    rw [this]; rfl
  | .inr _, _ => rfl
theorem z_rfV_ok {gi : Nat} {h : zV × Option Int × Option Int} {w0 w : Value} (hs : z_sat OB D DA cl TY PHI sz raw pu T0 H0 env0 nL st T H locs env ls stk) (h1 : env[gi]? = some w0) (hv : z_v OB T h.1 w) (hlo : ∀ k, h.2.1 = some k → ∃ x y : Int32, w0 = .int x ∧ w = .int y ∧ x.toInt + k ≤ y.toInt) (hhi : ∀ k, h.2.2 = some k → ∃ x y : Int32, w0 = .int x ∧ w = .int y ∧ y.toInt ≤ x.toInt + k) : z_v OB T (z_rfV st gi h) w := by
  unfold z_rfV
  split
  · rename_i r a hr ha
    rw [hr] at hv
    obtain ⟨y, rfl, y1, y2⟩ := hv
    obtain ⟨v, e1, x, rfl, x1, x2⟩ := z_get_ok hs.2.2.2.2.1 ha
    rw [h1] at e1
    cases e1
    refine ⟨y, rfl, ?_, ?_⟩
    · show (match h.2.1 with
        | some k => z_max r.1 (a.1 + k)
        | none => r.1) ≤ _
      cases hk : h.2.1 with
      | none => exact y1
      | some k =>
        obtain ⟨x', y', g1, g2, g3⟩ := hlo k hk
        cases g1; cases g2
        exact z_max_le y1 (by omega)
    · show _ ≤ (match h.2.2 with
        | some k => z_min r.2 (a.2 + k)
        | none => r.2)
      cases hk : h.2.2 with
      | none => exact y2
      | some k =>
        obtain ⟨x', y', g1, g2, g3⟩ := hhi k hk
        cases g1; cases g2
        exact z_min_ge y2 (by omega)
  · exact hv
theorem z_nx2 (A : List Value) (x y : Value) : (A ++ [x, y])[A.length + 1]? = some y := by simp
theorem z_cnd {α : Type} {b : Bool} {o : Option α} {r : α} (h : cond b o none = some r) : b = true ∧ o = some r := by
  cases b with
  | true => exact ⟨rfl, h⟩
  | false => cases h
theorem z_rfL_ok {As : List Nat} {va : List Value} (hA2 : ∀ (j a : Nat), As[j]? = some a → ∃ x, va[j]? = some x ∧ env[a]? = some x) : ∀ {L : List ((zLoc × zV) × Nat × (zV × Option Int × Option Int))} {st : zS} {L1 : List zS} {x : List Value}, z_rfL TY As L st = some L1 →
    (∀ q ∈ L, ∃ w0 w, env[q.2.1]? = some w0 ∧ z_lv D cl H (va[q.1.1.1]?) q.1.1 w ∧ z_v OB T q.2.2.1 w ∧ (∀ k, q.2.2.2.1 = some k → ∃ x y : Int32, w0 = .int x ∧ w = .int y ∧ x.toInt + k ≤ y.toInt) ∧ (∀ k, q.2.2.2.2 = some k → ∃ x y : Int32, w0 = .int x ∧ w = .int y ∧ y.toInt ≤ x.toInt + k)) →
    z_sat OB D DA cl TY PHI sz raw pu T0 H0 env0 nL st T H locs (env ++ x) ls stk → ∃ st' x', L1 = [st'] ∧ z_sat OB D DA cl TY PHI sz raw pu T0 H0 env0 nL st' T H locs (env ++ x') ls stk ∧ z_C st' = z_C st ∧ z_S st' = z_S st ∧ ∃ w, x' = x ++ w
  | [], st, L1, x, h, _, hs => by
    cases h
    exact ⟨st, x, rfl, hs, rfl, rfl, [], by rw [List.append_nil]⟩
  | q :: r, st, L1, x, h, hq, hs => by
    obtain ⟨w0, w, e1, e2, e3, e4, e5⟩ := hq q List.mem_cons_self
    have hr := fun p hp => hq p (List.mem_cons_of_mem _ hp)
    have e3 := z_rfV_ok hs (z_app e1) e3 e4 e5
    unfold z_rfL at h
    rw [z_emp_ok e3] at h
    have h : (match As[q.1.1.1]? with
      | some a => (match q.1.1.2.2.2 with
        | none => z_rfL TY As r (z_L st, z_S st, z_n st + 1, (z_n st, z_rfV st q.2.1 q.2.2) :: z_V st, (a, q.1.1.2.1, q.1.1.2.2.1, z_n st) :: z_F st, z_E st, z_rel2 (z_n st) q.2.1 q.2.2 ++ z_R st, z_X st, z_C st, z_ph st)
        | some c => (match z_ffind st a q.1.1.2.1 q.1.1.2.2.1 with
          | some w => cond (Nat.ble c 1000000) (z_rfL TY As r (z_L st, z_S st, z_n st + 2, (z_n st + 1, z_rfV st q.2.1 q.2.2) :: (z_n st, .inl ((c : Int), (c : Int))) :: z_V st, z_F st, (w, z_n st, z_n st + 1) :: z_E st, z_rel2 (z_n st + 1) q.2.1 q.2.2 ++ z_R st, z_X st, z_C st, z_ph st)) none
          | none => (match z_get (z_V st) a with
          | some (.inr (.inl t)) => (match TY[t]? with
            | some (.inl o) => (match o.2[q.1.1.2.2.1]? with
              | some cf => cond (Nat.beq o.1 q.1.1.2.1 && Nat.ble c 1000000) (z_rfL TY As r (z_L st, z_S st, z_n st + 3, (z_n st + 2, z_rfV st q.2.1 q.2.2) :: (z_n st + 1, .inl ((c : Int), (c : Int))) :: (z_n st, cf) :: z_V st, (a, q.1.1.2.1, q.1.1.2.2.1, z_n st) :: z_F st, (z_n st, z_n st + 1, z_n st + 2) :: z_E st, z_rel2 (z_n st + 2) q.2.1 q.2.2 ++ z_R st, z_X st, z_C st, z_ph st)) none
              | none => none)
            | _ => none)
          | _ => none)))
      | none => none) = some L1 := h
    split at h
    · rename_i a ha
      obtain ⟨xa, f1, f2⟩ := hA2 _ _ ha
      obtain ⟨ad, rc, g1, g2, g3, g4⟩ := e2
      rw [f1] at g1
      cases g1
      split at h
      · rename_i ho
        rw [ho] at g4
        have hn : (env ++ (x ++ [w]))[z_n st]? = some w := by rw [← hs.1, ← List.append_assoc]; simp
        have hp : z_sat OB D DA cl TY PHI sz raw pu T0 H0 env0 nL (z_L st, z_S st, z_n st + 1, (z_n st, z_rfV st q.2.1 q.2.2) :: z_V st, (a, q.1.1.2.1, q.1.1.2.2.1, z_n st) :: z_F st, z_E st, z_rel2 (z_n st) q.2.1 q.2.2 ++ z_R st, z_X st, z_C st, z_ph st) T H locs (env ++ (x ++ [w])) ls stk := by
          rw [← List.append_assoc] at hn ⊢
          refine ⟨by show (env ++ x ++ [w]).length = z_n st + 1; rw [List.length_append, hs.1]; rfl, z_pre_app (w1 := []) hs.2.1, z_ls_app hs.2.2.1, z_stk_app hs.2.2.2.1, fun f hf => ?_, fun f hf => ?_, z_fe_app hs.2.2.2.2.2.2.1, fun f hf => ?_, z_fx_app hs.2.2.2.2.2.2.2.2.1, hs.2.2.2.2.2.2.2.2.2⟩
          · rcases List.mem_cons.mp hf with rfl | hf
            · exact ⟨_, hn, e3⟩
            · exact z_fv_app hs.2.2.2.2.1 f hf
          · rcases List.mem_cons.mp hf with rfl | hf
            · exact ⟨ad, w, rc, z_app (z_app f2), hn, g2, g3, g4⟩
            · exact z_ff_app hs.2.2.2.2.2.1 f hf
          · rcases List.mem_append.mp hf with hf | hf
            · exact z_rel2_ok hn (z_app (z_app e1)) e4 e5 f hf
            · exact z_fr_app hs.2.2.2.2.2.2.2.1 f hf
        obtain ⟨st', x', k0, k1, k2, k3, w2, k4⟩ := z_rfL_ok hA2 h hr hp
        exact ⟨st', x', k0, k1, k2, k3, [w] ++ w2, by rw [k4, List.append_assoc]⟩
      · rename_i c0 ho
        rw [ho] at g4
        obtain ⟨b, b1, b2⟩ := g4
        cases hff : z_ffind st a q.1.1.2.1 q.1.1.2.2.1 with
        | some wf =>
          rw [hff] at h
          obtain ⟨hb, h⟩ := z_cnd h
          obtain ⟨a2, v2, y1, y2, y3⟩ := z_ffind_ok hff hs
          rw [z_app f2] at y1
          cases y1
          have := z_sl_fun y3 b1
          subst this
          have hcle := Nat.le_of_ble_eq_true hb
          have hi : (Int32.ofNat c0).toInt = (c0 : Int) := Int32.toInt_ofNat_of_lt (by omega)
          have l0 : (env ++ x).length = z_n st := hs.1
          have n0 : (env ++ x ++ [.int (Int32.ofNat c0), w])[z_n st]? = some (.int (Int32.ofNat c0)) := by rw [← l0]; simp
          have n1 : (env ++ x ++ [.int (Int32.ofNat c0), w])[z_n st + 1]? = some w := by rw [← l0]; exact z_nx2 _ _ _
          have hp : z_sat OB D DA cl TY PHI sz raw pu T0 H0 env0 nL (z_L st, z_S st, z_n st + 2, (z_n st + 1, z_rfV st q.2.1 q.2.2) :: (z_n st, .inl ((c0 : Int), (c0 : Int))) :: z_V st, z_F st, (wf, z_n st, z_n st + 1) :: z_E st, z_rel2 (z_n st + 1) q.2.1 q.2.2 ++ z_R st, z_X st, z_C st, z_ph st) T H locs (env ++ (x ++ [.int (Int32.ofNat c0), w])) ls stk := by
            rw [← List.append_assoc]
            refine ⟨by show (env ++ x ++ [.int (Int32.ofNat c0), w]).length = z_n st + 2; rw [List.length_append, hs.1]; rfl, ?_, z_ls_app hs.2.2.1, z_stk_app hs.2.2.2.1, fun f hf => ?_, z_ff_app hs.2.2.2.2.2.1, fun f hf => ?_, fun f hf => ?_, z_fx_app hs.2.2.2.2.2.2.2.2.1, hs.2.2.2.2.2.2.2.2.2⟩
            · obtain ⟨w3, hw3⟩ := hs.2.1
              exact ⟨w3 ++ [.int (Int32.ofNat c0), w], by rw [hw3, List.append_assoc]⟩
            · rcases List.mem_cons.mp hf with rfl | hf
              · exact ⟨_, n1, e3⟩
              · rcases List.mem_cons.mp hf with rfl | hf
                · exact ⟨_, n0, z_vi ⟨by rw [hi]; exact Int.le_refl _, by rw [hi]; exact Int.le_refl _⟩⟩
                · exact z_fv_app hs.2.2.2.2.1 f hf
            · rcases List.mem_cons.mp hf with rfl | hf
              · exact ⟨b, _, w, z_app y2, n0, by omega, n1, by rw [hi]; simpa using b2⟩
              · exact z_fe_app hs.2.2.2.2.2.2.1 f hf
            · rcases List.mem_append.mp hf with hf | hf
              · exact z_rel2_ok n1 (z_app (z_app e1)) e4 e5 f hf
              · exact z_fr_app hs.2.2.2.2.2.2.2.1 f hf
          obtain ⟨st', x', k0, k1, k2, k3, w2, k4⟩ := z_rfL_ok hA2 h hr hp
          exact ⟨st', x', k0, k1, k2, k3, [.int (Int32.ofNat c0), w] ++ w2, by rw [k4, List.append_assoc]⟩
        | none =>
        rw [hff] at h
        simp only at h
        split at h
        · rename_i t ht
          split at h
          · rename_i o hto
            split at h
            · rename_i cf hcf
              cases hb : (Nat.beq o.1 q.1.1.2.1 && Nat.ble c0 1000000) with
              | false => rw [hb] at h; cases h
              | true =>
                rw [hb] at h
                rw [Bool.and_eq_true] at hb
                obtain ⟨ci, fl⟩ := o
                have hci : ci = q.1.1.2.1 := z_beq hb.1
                obtain ⟨a2, r2, V, y1, y2, y3, y4, y5, y6⟩ := z_obj hs ht hto
                rw [z_app f2] at y1
                cases y1
                have hcle := Nat.le_of_ble_eq_true hb.2
                have hi : (Int32.ofNat c0).toInt = (c0 : Int) := Int32.toInt_ofNat_of_lt (by omega)
                have hVk : V q.1.1.2.2.1 = .ref b := by
                  obtain ⟨cell, z1, z2, z3, z4⟩ := y5
                  have hlt : q.1.1.2.2.1 < r2.2.2 := by rw [← y4]; exact (List.getElem?_eq_some_iff.mp hcf).1
                  have z5 : z_sl H ad (D.2 q.1.1.2.1 q.1.1.2.2.1) (V q.1.1.2.2.1) := ⟨cell, z1, z3, by rw [← hci]; exact z4 _ hlt⟩
                  exact z_sl_fun z5 b1
                have hcfv := y6 _ _ hcf
                rw [hVk] at hcfv
                have l0 : (env ++ x).length = z_n st := hs.1
                have n0 : (env ++ x ++ [.ref b, .int (Int32.ofNat c0), w])[z_n st]? = some (.ref b) := by rw [← l0]; exact (z_nx3 _ _ _ _).1
                have n1 : (env ++ x ++ [.ref b, .int (Int32.ofNat c0), w])[z_n st + 1]? = some (.int (Int32.ofNat c0)) := by rw [← l0]; exact (z_nx3 _ _ _ _).2.1
                have n2 : (env ++ x ++ [.ref b, .int (Int32.ofNat c0), w])[z_n st + 2]? = some w := by rw [← l0]; exact (z_nx3 _ _ _ _).2.2
                have hp : z_sat OB D DA cl TY PHI sz raw pu T0 H0 env0 nL (z_L st, z_S st, z_n st + 3, (z_n st + 2, z_rfV st q.2.1 q.2.2) :: (z_n st + 1, .inl ((c0 : Int), (c0 : Int))) :: (z_n st, cf) :: z_V st, (a, q.1.1.2.1, q.1.1.2.2.1, z_n st) :: z_F st, (z_n st, z_n st + 1, z_n st + 2) :: z_E st, z_rel2 (z_n st + 2) q.2.1 q.2.2 ++ z_R st, z_X st, z_C st, z_ph st) T H locs (env ++ (x ++ [.ref b, .int (Int32.ofNat c0), w])) ls stk := by
                  rw [← List.append_assoc]
                  refine ⟨by show (env ++ x ++ [.ref b, .int (Int32.ofNat c0), w]).length = z_n st + 3; rw [List.length_append, hs.1]; rfl, ?_, z_ls_app hs.2.2.1, z_stk_app hs.2.2.2.1, fun f hf => ?_, fun f hf => ?_, fun f hf => ?_, fun f hf => ?_, z_fx_app hs.2.2.2.2.2.2.2.2.1, hs.2.2.2.2.2.2.2.2.2⟩
                  · obtain ⟨w3, hw3⟩ := hs.2.1
                    exact ⟨w3 ++ [.ref b, .int (Int32.ofNat c0), w], by rw [hw3, List.append_assoc]⟩
                  · rcases List.mem_cons.mp hf with rfl | hf
                    · exact ⟨_, n2, e3⟩
                    · rcases List.mem_cons.mp hf with rfl | hf
                      · exact ⟨_, n1, z_vi ⟨by rw [hi]; exact Int.le_refl _, by rw [hi]; exact Int.le_refl _⟩⟩
                      · rcases List.mem_cons.mp hf with rfl | hf
                        · exact ⟨_, n0, hcfv⟩
                        · exact z_fv_app hs.2.2.2.2.1 f hf
                  · rcases List.mem_cons.mp hf with rfl | hf
                    · exact ⟨ad, .ref b, rc, z_app (z_app f2), n0, g2, g3, b1⟩
                    · exact z_ff_app hs.2.2.2.2.2.1 f hf
                  · rcases List.mem_cons.mp hf with rfl | hf
                    · exact ⟨b, _, w, n0, n1, by omega, n2, by rw [hi]; simpa using b2⟩
                    · exact z_fe_app hs.2.2.2.2.2.2.1 f hf
                  · rcases List.mem_append.mp hf with hf | hf
                    · exact z_rel2_ok n2 (z_app (z_app e1)) e4 e5 f hf
                    · exact z_fr_app hs.2.2.2.2.2.2.2.1 f hf
                obtain ⟨st', x', k0, k1, k2, k3, w2, k4⟩ := z_rfL_ok hA2 h hr hp
                exact ⟨st', x', k0, k1, k2, k3, [.ref b, .int (Int32.ofNat c0), w] ++ w2, by rw [k4, List.append_assoc]⟩
            · cases h
          · cases h
        · cases h
    · cases h
/-- the end that came is among the states behind the call -/
theorem z_cas_ok {As gs : List Nat} {va vr : List Value} {v : Option Value} {T' : zTp} {H1 : Heap} {locs1 : List Loc} {P : zP} {L : List zS} (hAl : As.length = va.length) (hA2 : ∀ (j a : Nat), As[j]? = some a → ∃ x, va[j]? = some x ∧ env[a]? = some x) (hgl : gs.length = (g_loc g).length) (hgs : ∀ (i : Nat) (q : zLoc × zV) (w : Nat), (g_loc g)[i]? = some q → gs[i]? = some w → ∃ v : Value, env[w]? = some v ∧ z_lv D cl H (va[q.1.1]?) q.1 v)
    (hs : z_sat OB D DA cl TY PHI sz raw pu T0 H0 env0 nL (z_bas TY cl PHI g As st) T' H1 locs1 env ls vr) (hC : z_Cs OB D cl g T' va H H1 v P) (h : z_cas TY cl PHI g As gs st P = some L) :
    ∃ st' env', st' ∈ L ∧ z_C st' = ((z_C st).1 + (g_mk g).1, (z_C st).2 + (g_mk g).2) ∧ z_sat OB D DA cl TY PHI sz raw pu T0 H0 env0 nL st' T' H1 locs1 env' ls (v.toList ++ vr) := by
  obtain ⟨hCA, hCR, hCN, hCL⟩ := hC
  unfold z_cas at h
  cases h1 : z_rfA As P.1 (z_bas TY cl PHI g As st) with
  | none => rw [h1] at h; cases h
  | some L1 =>
    obtain ⟨st1, rfl, g1, g2, g3⟩ := z_rfA_ok hA2 h1 hCA hs
    simp only [h1] at h
    have step2 : ∀ st2, z_rfL TY As ((g_loc g).zip (gs.zip P.2.2.1)) st1 = some st2 → ∃ st3 x', st2 = [st3] ∧ z_sat OB D DA cl TY PHI sz raw pu T0 H0 env0 nL st3 T' H1 locs1 (env ++ x') ls vr ∧ z_C st3 = z_C st1 ∧ z_S st3 = z_S st1 := by
      intro st2 h2
      have h2 : z_rfL TY As ((g_loc g).zip (gs.zip P.2.2.1)) st1 = some st2 := h2
      have g1' : z_sat OB D DA cl TY PHI sz raw pu T0 H0 env0 nL st1 T' H1 locs1 (env ++ []) ls vr := by rw [List.append_nil]; exact g1
      obtain ⟨st3, x', k0, k1, k2, k3, _⟩ := z_rfL_ok hA2 h2 (fun q hq => by
        obtain ⟨i, hi⟩ := List.getElem?_of_mem hq
        rw [List.getElem?_zip_eq_some, List.getElem?_zip_eq_some] at hi
        obtain ⟨hi1, hi2, hi3⟩ := hi
        obtain ⟨v0, m1, m2⟩ := hgs i _ _ hi1 hi2
        obtain ⟨w0, w, n1, n2, n3, n4, n5⟩ := hCL i _ _ hi1 hi3
        have := z_lv_fun m2 n1
        subst this
        exact ⟨v0, w, m1, n2, n3, n4, n5⟩) g1'
      exact ⟨st3, x', k0, k1, k2, k3⟩
    cases h3 : z_rfL TY As ((g_loc g).zip (gs.zip P.2.2.1)) st1 with
    | none => rw [h3] at h; cases h
    | some L2 =>
      obtain ⟨st2, x', rfl, k1, k2, k3⟩ := step2 L2 h3
      rw [h3] at h
      have h : (match z_rfL TY As (P.2.2.2.map (fun q => (q, (As[q.1.1]?).getD 0, q.2, none, none))) st2 with
        | some [st3] => (match P.2.1 with
          | none => some [st3]
          | some c => some [z_psh st3 (z_S st3) c []])
        | some _ => some []
        | none => none) = some L := h
      cases h4 : z_rfL TY As (P.2.2.2.map (fun q => (q, (As[q.1.1]?).getD 0, q.2, none, none))) st2 with
      | none => rw [h4] at h; cases h
      | some L3 =>
        obtain ⟨st3, x3, rfl, j1, j2, j3, -⟩ := z_rfL_ok hA2 h4 (fun q hq => by
          obtain ⟨q0, hq0, rfl⟩ := List.mem_map.mp hq
          obtain ⟨w, n1, n2⟩ := hCN q0 hq0
          have n1' := n1
          obtain ⟨a, r, m1, -⟩ := n1'
          have hlt : q0.1.1 < As.length := by rw [hAl]; exact (List.getElem?_eq_some_iff.mp m1).1
          have hA := List.getElem?_eq_getElem hlt
          obtain ⟨x0, y1, y2⟩ := hA2 _ _ hA
          refine ⟨x0, w, ?_, n1, n2, (fun k hk => by cases hk), (fun k hk => by cases hk)⟩
          show env[(As[q0.1.1]?).getD 0]? = some x0
          rw [hA]
          exact y2) k1
        rw [h4] at h
        have hC3 : z_C st3 = ((z_C st).1 + (g_mk g).1, (z_C st).2 + (g_mk g).2) := j2.trans (k2.trans g2)
        cases hr : P.2.1 with
        | none =>
          simp only [hr] at h
          cases h
          rw [hr] at hCR
          cases v with
          | none => exact ⟨st3, _, List.mem_singleton.mpr rfl, hC3, j1⟩
          | some x => exact hCR.elim
        | some c0 =>
          simp only [hr] at h
          cases h
          rw [hr] at hCR
          cases v with
          | none => exact hCR.elim
          | some x => exact ⟨_, _, List.mem_singleton.mpr rfl, hC3, z_sat_psh j1 j1.2.2.2.1 hCR (fun q hq => absurd hq List.not_mem_nil)⟩
end ZCALLS3
