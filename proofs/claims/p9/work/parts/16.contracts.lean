/-! Contracts: what a method asks and what it answers. -/
abbrev zLoc : Type := Nat × Nat × Nat × Option Nat
abbrev zP : Type := List (Nat × zV) × Option zV × List (zV × Option Int × Option Int) × List (zLoc × zV)
/-- parameters; the class of a raw first one; places with what they hold at first; ends; nothing written; cells and slots; frames and locals; retyping -/
abbrev zSig : Type := List zV × Option Nat × List (zLoc × zV) × List zP × Bool × (Nat × Nat) × (Nat × Nat) × Nat
abbrev g_prm (g : zSig) := g.1
abbrev g_raw (g : zSig) := g.2.1
abbrev g_loc (g : zSig) := g.2.2.1
abbrev g_pst (g : zSig) := g.2.2.2.1
abbrev g_pur (g : zSig) := g.2.2.2.2.1
abbrev g_mk (g : zSig) := g.2.2.2.2.2.1
abbrev g_rm (g : zSig) := g.2.2.2.2.2.2.1
abbrev g_ph (g : zSig) := g.2.2.2.2.2.2.2
/-- what stands in a place that is named from an argument on -/
def z_lv (D : va_G) (cl : List vw_C) (H : Heap) (o : Option Value) (q : zLoc) (w : Value) : Prop := ∃ a r, o = some (.ref a) ∧ cl[q.2.1]? = some r ∧ q.2.2.1 < r.2.2 ∧ (match q.2.2.2 with
  | none => z_sl H a (D.2 q.2.1 q.2.2.1) w
  | some c => ∃ b : Nat, z_sl H a (D.2 q.2.1 q.2.2.1) (.ref b) ∧ z_sl H b c w)
theorem z_sl_fun {H : Heap} {a k : Nat} {v w : Value} (h : z_sl H a k v) (h2 : z_sl H a k w) : v = w := by
  obtain ⟨c1, e1, _, e3⟩ := h
  obtain ⟨c2, f1, _, f3⟩ := h2
  rw [e1] at f1
  cases f1
  rw [e3] at f3
  exact Option.some.inj f3
theorem z_lv_fun {D : va_G} {cl : List vw_C} {H : Heap} {o : Option Value} {q : zLoc} {v w : Value} (h : z_lv D cl H o q v) (h2 : z_lv D cl H o q w) : v = w := by
  obtain ⟨a, r, e1, e2, e3, e4⟩ := h
  obtain ⟨b, r2, f1, f2, f3, f4⟩ := h2
  rw [e1] at f1
  cases f1
  rcases q with ⟨j, ci, k, _ | c⟩
  · exact z_sl_fun e4 f4
  · obtain ⟨x, x1, x2⟩ := e4
    obtain ⟨y, y1, y2⟩ := f4
    have := z_sl_fun x1 y1
    cases this
    exact z_sl_fun x2 y2
/-- a symbol for what a field holds -/
def z_gf (TY : List zTy) (st : zS) (d ci k : Nat) : Option (zS × Nat) := match z_ffind st d ci k with
  | some w => some (st, w)
  | none => (match z_get (z_V st) d with
    | some (.inr (.inl t)) => (match TY[t]? with
      | some (.inl o) => (match o.2[k]? with
        | some c => cond (Nat.beq o.1 ci) (some ((z_L st, z_S st, z_n st + 1, (z_n st, c) :: z_V st, (d, ci, k, z_n st) :: z_F st, z_E st, z_R st, z_X st, z_C st, z_ph st), z_n st)) none
        | none => none)
      | _ => none)
    | _ => none)
/-- a symbol for a constant -/
def z_gc (st : zS) (c : Nat) : zS := (z_L st, z_S st, z_n st + 1, (z_n st, .inl ((c : Int), (c : Int))) :: z_V st, z_F st, z_E st, z_R st, z_X st, z_C st, z_ph st)
/-- a symbol for what an entry holds -/
def z_ge (TY : List zTy) (st : zS) (d j c : Nat) : Option (zS × Nat) := match z_efind st d j with
  | some w => some (st, w)
  | none => (match z_get (z_V st) d with
    | some (.inr (.inl t)) => (match TY[t]? with
      | some (.inr q) => (match z_seg q.2.2 ((c : Int), (c : Int)) with
        | some v => cond (Nat.blt c q.2.1.1) (some ((z_L st, z_S st, z_n st + 1, (z_n st, v) :: z_V st, z_F st, (d, j, z_n st) :: z_E st, z_R st, z_X st, z_C st, z_ph st), z_n st)) none
        | none => none)
      | _ => none)
    | _ => none)
def z_gl (TY : List zTy) (st : zS) (d : Nat) (q : zLoc) : Option (zS × Nat) := match z_gf TY st d q.2.1 q.2.2.1 with
  | some (st1, w) => (match q.2.2.2 with
    | none => some (st1, w)
    | some c => cond (Nat.ble c 1000000) (z_ge TY (z_gc st1 c) w (z_n st1) c) none)
  | none => none
/-- the same but for what is known -/
def z_ext (st st' : zS) : Prop := z_L st' = z_L st ∧ z_S st' = z_S st ∧ z_X st' = z_X st ∧ z_C st' = z_C st ∧ z_ph st' = z_ph st ∧ z_n st ≤ z_n st'
section ZGH
variable {OB : Nat → Nat} {D : va_G} {DA : Nat → ClassId} {cl : List vw_C} {TY : List zTy} {PHI : List (List Nat)} {sz : Nat} {raw : Option Nat} {pu : Bool} {T0 : zTp} {H0 : Heap} {env0 : List Value} {nL : Nat} {st st' : zS} {T : zTp} {H : Heap} {locs : List Loc} {env : List Value} {ls : Array Slot} {stk : List Value}
theorem z_pre_app {w1 : List Value} {v : Value} (h : ∃ w, env = env0 ++ w) : ∃ w, env ++ [v] = env0 ++ w := by
  obtain ⟨w, hw⟩ := h
  exact ⟨w ++ [v], by rw [hw, List.append_assoc]⟩
theorem z_gf_ok {d ci k w : Nat} (h : z_gf TY st d ci k = some (st', w)) (hs : z_sat OB D DA cl TY PHI sz raw pu T0 H0 env0 nL st T H locs env ls stk) :
    ∃ (x : List Value) (a : Nat) (v : Value), z_sat OB D DA cl TY PHI sz raw pu T0 H0 env0 nL st' T H locs (env ++ x) ls stk ∧ z_ext st st' ∧ env[d]? = some (.ref a) ∧ (env ++ x)[w]? = some v ∧ z_sl H a (D.2 ci k) v := by
  unfold z_gf at h
  split at h
  · rename_i w2 hw
    cases h
    obtain ⟨a, v, e1, e2, e3⟩ := z_ffind_ok hw hs
    exact ⟨[], a, v, by rw [List.append_nil]; exact hs, ⟨rfl, rfl, rfl, rfl, rfl, Nat.le_refl _⟩, e1, by rw [List.append_nil]; exact e2, e3⟩
  · split at h
    · rename_i t ht
      split at h
      · rename_i o ho
        split at h
        · rename_i c0 hc0
          obtain ⟨hb1, hh⟩ := z_cond h
          cases hh
          obtain ⟨ci2, fl⟩ := o
          have ho1 : ci2 = ci := z_beq hb1
          subst ho1
          obtain ⟨a, r, V, g1, g2, g3, g4, g5, g6⟩ := z_obj hs ht ho
          have hlt : k < r.2.2 := by rw [← g4]; exact (List.getElem?_eq_some_iff.mp hc0).1
          have hsl : z_sl H a (D.2 ci2 k) (V k) := by
            obtain ⟨cell, x1, x2, x3, x4⟩ := g5
            exact ⟨cell, x1, x3, x4 _ hlt⟩
          have hn : (env ++ [V k])[z_n st]? = some (V k) := by rw [← hs.1]; simp
          refine ⟨[V k], a, V k, ⟨by show (env ++ [V k]).length = z_n st + 1; rw [List.length_append, hs.1]; rfl, z_pre_app (w1 := []) hs.2.1, z_ls_app hs.2.2.1, z_stk_app hs.2.2.2.1, fun f hf => ?_, fun f hf => ?_, z_fe_app hs.2.2.2.2.2.2.1, z_fr_app hs.2.2.2.2.2.2.2.1, z_fx_app hs.2.2.2.2.2.2.2.2.1, hs.2.2.2.2.2.2.2.2.2⟩, ⟨rfl, rfl, rfl, rfl, rfl, Nat.le_succ _⟩, g1, hn, hsl⟩
          · rcases List.mem_cons.mp hf with rfl | hf
            · exact ⟨_, hn, g6 _ _ hc0⟩
            · exact z_fv_app hs.2.2.2.2.1 f hf
          · rcases List.mem_cons.mp hf with rfl | hf
            · exact ⟨a, _, r, z_app g1, hn, g3, hlt, hsl⟩
            · exact z_ff_app hs.2.2.2.2.2.1 f hf
        · cases h
      · cases h
    · cases h
theorem z_gc_ok {c : Nat} (hc : c ≤ 1000000) (hs : z_sat OB D DA cl TY PHI sz raw pu T0 H0 env0 nL st T H locs env ls stk) : ∃ i : Int32, i.toInt = (c : Int) ∧ (env ++ [.int i])[z_n st]? = some (.int i) ∧ z_sat OB D DA cl TY PHI sz raw pu T0 H0 env0 nL (z_gc st c) T H locs (env ++ [.int i]) ls stk := by
  have hi : (Int32.ofNat c).toInt = (c : Int) := Int32.toInt_ofNat_of_lt (by omega)
  have hn : (env ++ [Value.int (Int32.ofNat c)])[z_n st]? = some (.int (Int32.ofNat c)) := by rw [← hs.1]; simp
  refine ⟨Int32.ofNat c, hi, hn, by show (env ++ [Value.int (Int32.ofNat c)]).length = z_n st + 1; rw [List.length_append, hs.1]; rfl, z_pre_app (w1 := []) hs.2.1, z_ls_app hs.2.2.1, z_stk_app hs.2.2.2.1, fun f hf => ?_, z_ff_app hs.2.2.2.2.2.1, z_fe_app hs.2.2.2.2.2.2.1, z_fr_app hs.2.2.2.2.2.2.2.1, z_fx_app hs.2.2.2.2.2.2.2.2.1, hs.2.2.2.2.2.2.2.2.2⟩
  rcases List.mem_cons.mp hf with rfl | hf
  · exact ⟨_, hn, z_vi ⟨by rw [hi]; exact Int.le_refl _, by rw [hi]; exact Int.le_refl _⟩⟩
  · exact z_fv_app hs.2.2.2.2.1 f hf
theorem z_ge_ok {d j c w : Nat} {i : Int32} (hi : i.toInt = (c : Int)) (hj : env[j]? = some (.int i)) (h : z_ge TY st d j c = some (st', w)) (hs : z_sat OB D DA cl TY PHI sz raw pu T0 H0 env0 nL st T H locs env ls stk) :
    ∃ (x : List Value) (b : Nat) (v : Value), z_sat OB D DA cl TY PHI sz raw pu T0 H0 env0 nL st' T H locs (env ++ x) ls stk ∧ z_ext st st' ∧ env[d]? = some (.ref b) ∧ (env ++ x)[w]? = some v ∧ z_sl H b c v := by
  unfold z_ge at h
  split at h
  · rename_i w2 hw
    cases h
    obtain ⟨a, v, e1, e2, e3, e4⟩ := z_efind_ok hw hs hj
    rw [hi] at e4
    exact ⟨[], a, v, by rw [List.append_nil]; exact hs, ⟨rfl, rfl, rfl, rfl, rfl, Nat.le_refl _⟩, e1, by rw [List.append_nil]; exact e2, by simpa using e4⟩
  · split at h
    · rename_i t ht
      split at h
      · rename_i q hq
        split at h
        · rename_i v0 hv0
          obtain ⟨hb1, hh⟩ := z_cond h
          cases hh
          obtain ⟨ek, ⟨lo, hi2⟩, sg⟩ := q
          have hlt := z_blt hb1
          obtain ⟨a, n, f, g1, g2, g3, g4, g5, g6, g7⟩ := z_arr hs ht hq
          have hcn : c < n := Nat.lt_of_lt_of_le hlt g4
          have hsl : z_sl H a c (f c) := ⟨_, g3, rfl, arrV_read _ _ hcn⟩
          unfold z_seg at hv0
          cases hfi : sg.find? (fun g => z_ile (g.1.1 : Int) ((c : Int), (c : Int)).1 && z_ile ((c : Int), (c : Int)).2 (g.1.2 : Int)) with
          | none => rw [hfi] at hv0; cases hv0
          | some g =>
            rw [hfi] at hv0
            cases hv0
            have hm := List.mem_of_find?_eq_some hfi
            have hp := List.find?_some hfi
            rw [Bool.and_eq_true] at hp
            have p1 := z_ile_ok hp.1
            have p2 := z_ile_ok hp.2
            have hv := g7 g hm c hcn (by omega) (by omega)
            have hn : (env ++ [f c])[z_n st]? = some (f c) := by rw [← hs.1]; simp
            refine ⟨[f c], a, f c, ⟨by show (env ++ [f c]).length = z_n st + 1; rw [List.length_append, hs.1]; rfl, z_pre_app (w1 := []) hs.2.1, z_ls_app hs.2.2.1, z_stk_app hs.2.2.2.1, fun f2 hf => ?_, z_ff_app hs.2.2.2.2.2.1, fun f2 hf => ?_, z_fr_app hs.2.2.2.2.2.2.2.1, z_fx_app hs.2.2.2.2.2.2.2.2.1, hs.2.2.2.2.2.2.2.2.2⟩, ⟨rfl, rfl, rfl, rfl, rfl, Nat.le_succ _⟩, g1, hn, hsl⟩
            · rcases List.mem_cons.mp hf with rfl | hf
              · exact ⟨_, hn, hv⟩
              · exact z_fv_app hs.2.2.2.2.1 f2 hf
            · rcases List.mem_cons.mp hf with rfl | hf
              · exact ⟨a, i, _, z_app g1, z_app hj, by omega, hn, by rw [hi]; simpa using hsl⟩
              · exact z_fe_app hs.2.2.2.2.2.2.1 f2 hf
        · cases h
      · cases h
    · cases h
theorem z_gl_ok {d w : Nat} {q : zLoc} {r : vw_C} (hr : cl[q.2.1]? = some r) (hk : q.2.2.1 < r.2.2) (h : z_gl TY st d q = some (st', w)) (hs : z_sat OB D DA cl TY PHI sz raw pu T0 H0 env0 nL st T H locs env ls stk) :
    ∃ (x : List Value) (v : Value), z_sat OB D DA cl TY PHI sz raw pu T0 H0 env0 nL st' T H locs (env ++ x) ls stk ∧ z_ext st st' ∧ (env ++ x)[w]? = some v ∧ z_lv D cl H (env[d]?) q v := by
  unfold z_gl at h
  split at h
  · rename_i st1 w1 h1
    obtain ⟨x, a, v, g1, g2, g3, g4, g5⟩ := z_gf_ok h1 hs
    split at h
    · rename_i ho
      cases h
      refine ⟨x, v, g1, g2, g4, a, r, g3, hr, hk, ?_⟩
      rw [ho]
      exact g5
    · rename_i c ho
      cases hc : Nat.ble c 1000000 with
      | false => rw [hc] at h; cases h
      | true =>
        rw [hc] at h
        obtain ⟨i, i1, i2, i3⟩ := z_gc_ok (Nat.le_of_ble_eq_true hc) g1
        obtain ⟨y, b, v2, k1, k2, k3, k4, k5⟩ := z_ge_ok i1 i2 h i3
        rw [z_app g4] at k3
        cases k3
        refine ⟨x ++ [.int i] ++ y, v2, by rw [← List.append_assoc, ← List.append_assoc]; exact k1, ?_, by rw [← List.append_assoc, ← List.append_assoc]; exact k4, a, r, g3, hr, hk, ?_⟩
        · obtain ⟨a1, a2, a3, a4, a5, a6⟩ := g2
          obtain ⟨b1, b2, b3, b4, b5, b6⟩ := k2
          exact ⟨b1.trans a1, b2.trans a2, b3.trans a3, b4.trans a4, b5.trans a5, Nat.le_trans a6 (Nat.le_trans (Nat.le_succ _) b6)⟩
        · rw [ho]
          exact ⟨b, g5, k5⟩
  · cases h
end ZGH
