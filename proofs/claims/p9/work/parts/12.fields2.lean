/-! Fields read and set. -/
def z_ld (st : zS) (S : List Nat) (c : zV) (fs : List (Nat × Nat × Nat × Nat)) (es : List (Nat × Nat × Nat)) : zS := (z_L st, z_n st :: S, z_n st + 1, (z_n st, c) :: z_V st, fs ++ z_F st, es ++ z_E st, z_R st, z_X st, z_C st, z_ph st)
def z_getf (TY : List zTy) (FL : List (Nat × Nat × Nat)) (st : zS) (i : Nat) : Option zS := match z_S st, FL.find? (fun q => Nat.beq q.1 i) with
  | d :: S, some q => (match z_ffind st d q.2.1 q.2.2, z_isr st d with
    | some w, true => some (z_stS st (w :: S))
    | none, true => (match z_get (z_V st) d with
      | some (.inr (.inl t)) => (match TY[t]? with
        | some (.inl o) => (match o.2[q.2.2]? with
          | some c => cond (Nat.beq o.1 q.2.1) (some (z_ld st S c [(d, q.2.1, q.2.2, z_n st)] [])) none
          | none => none)
        | _ => none)
      | _ => none)
    | _, _ => none)
  | _, _ => none
def z_wr (st : zS) (S : List Nat) (F : List (Nat × Nat × Nat × Nat)) (E : List (Nat × Nat × Nat)) : zS := (z_L st, S, z_n st, z_V st, F, E, z_R st, z_X st, z_C st, z_ph st)
def z_putf (TY : List zTy) (cl : List vw_C) (FT : Nat → Nat → FieldType) (ini : Option Nat) (FL : List (Nat × Nat × Nat)) (st : zS) (i : Nat) : Option zS := match z_S st, FL.find? (fun q => Nat.beq q.1 i) with
  | v :: d :: S, some q => (match z_get (z_V st) v, cl[q.2.1]? with
    | some c, some r => cond (z_fit (FT q.2.1 q.2.2) c && (!((r.2.1 q.2.2).2.2.2) || (match ini with | some j => Nat.beq j q.2.1 | none => false)) &&
        (match z_get (z_V st) d with
          | some (.inr (.inl t)) => (match TY[t]? with
            | some (.inl o) => (match o.2[q.2.2]? with
              | some c0 => Nat.beq o.1 q.2.1 && z_le c c0 && !((r.2.1 q.2.2).2.2.2) && !(zj_prot TY t) && (zj_slots o.1).all (fun k => !(Nat.beq k q.2.2) && Nat.blt k o.2.length)
              | none => false)
            | _ => false)
          | none => (z_X st).any (fun p => Nat.beq p.1 d && Nat.beq p.2 q.2.1)
          | _ => false))
        (some (z_wr st S ((d, q.2.1, q.2.2, v) :: (z_F st).filter (fun f => z_apt st f.1 d || (Nat.beq f.2.1 q.2.1 && !(Nat.beq f.2.2.1 q.2.2)))) ((z_E st).filter (fun f => z_apt st f.1 d)))) none
    | _, _ => none)
  | _, _ => none
section ZFIELDS2
variable {p : Program} {l : Launch} {e : Env} {R : Room} {s : State} {m : MethodId} {args : Array Value} {below : List Frame} {meth : Method} {c : Code} {Q : State → Prop} {cc : ByteArray} {pc : Nat}
variable {OB : Nat → Nat} {D : va_G} {DA : Nat → ClassId} {cl : List vw_C} {TY : List zTy} {PHI : List (List Nat)} {sz : Nat} {raw : Option Nat} {pu : Bool} {T0 : zTp} {H0 : Heap} {env0 : List Value} {nL : Nat} {st st' : zS} {good : Nat → zS → Prop}
variable {Ts : List Cond} {own : String} {FT : Nat → Nat → FieldType} {FL : List (Nat × Nat × Nat)} {tys : List (ClassId × FieldType)}
variable {T : zTp} {H : Heap} {locs : List Loc} {env : List Value} {ls : Array Slot} {stk : List Value} {cells slots : Nat} {rest : List Value}
theorem z_sat_ld (h : z_sat OB D DA cl TY PHI sz raw pu T0 H0 env0 nL st T H locs env ls stk) {S : List Nat} {k : List Value} (hS : z_stk env S k) {c : zV} {v : Value} (hv : z_v OB T c v) {fs : List (Nat × Nat × Nat × Nat)} (hf : z_ff D cl H (env ++ [v]) fs) {es : List (Nat × Nat × Nat)} (he : z_fe H (env ++ [v]) es) :
    z_sat OB D DA cl TY PHI sz raw pu T0 H0 env0 nL (z_ld st S c fs es) T H locs (env ++ [v]) ls (v :: k) := by
  obtain ⟨h1, h2, h3, h4, h5, h6, h7, h8, h9, h10⟩ := z_sat_psh h hS hv (rs := []) (fun q hq => absurd hq List.not_mem_nil)
  refine ⟨h1, h2, h3, h4, h5, fun q hq => ?_, fun q hq => ?_, h8, h9, h10⟩
  · rcases List.mem_append.mp hq with hq | hq
    · exact hf q hq
    · exact h6 q hq
  · rcases List.mem_append.mp hq with hq | hq
    · exact he q hq
    · exact h7 q hq
theorem z_r_getf (hg : z_Good p l e R s m args below meth c Q OB D DA cl TY PHI sz raw pu T0 H0 env0 nL good) (hx : p.tables.exec = Jvm.exec) (hb : c.code = cc) (hSt : z_St Ts cl FT own FL) (hD : z_Dy s m args Ts own D cl DA tys) {i : Nat} (hd : decode cc pc = .ok (.getfield i, 3)) (h : z_getf TY FL st i = some st') (k : good (pc + 3) st') : good pc st := by
  refine (hg _ _).mpr fun T H locs env ls stk hs => ?_
  unfold z_getf at h
  split at h
  · rename_i d S q hS hq
    have hm := List.mem_of_find?_eq_some hq
    have hi0 := List.find?_some hq
    have hi : q.1 = i := z_beq hi0
    obtain ⟨v, kk, rfl, e1, hk⟩ := z_stk_cons hS hs.2.2.2.1
    split at h
    · rename_i w hw hr
      cases h
      obtain ⟨a, v2, g1, g2, g3⟩ := z_ffind_ok hw hs
      rw [e1] at g1
      cases g1
      exact z_getrow hx hb hSt hD hm g3 (by rw [hi]; exact hd) ((hg _ _).mp k T H locs env ls _ (z_sat_stS hs ⟨_, _, rfl, g2, hk⟩))
    · split at h
      · rename_i t ht
        split at h
        · rename_i o ho
          split at h
          · rename_i c0 hc0
            obtain ⟨hb1, rfl⟩ := z_cond h
            have ho1 := z_beq hb1
            obtain ⟨ci, fl⟩ := o
            have ho1 : ci = q.2.1 := ho1
            subst ho1
            obtain ⟨a, r, V, g1, g2, g3, g4, g5, g6⟩ := z_obj hs ht ho
            rw [e1] at g1
            cases g1
            have hlt : q.2.2 < r.2.2 := by rw [← g4]; exact (List.getElem?_eq_some_iff.mp hc0).1
            have hsl : z_sl H a (D.2 q.2.1 q.2.2) (V q.2.2) := by
              obtain ⟨cell, x1, x2, x3, x4⟩ := g5
              exact ⟨cell, x1, x3, x4 _ hlt⟩
            have hn : (env ++ [V q.2.2])[z_n st]? = some (V q.2.2) := by rw [← hs.1]; simp
            refine z_getrow hx hb hSt hD hm hsl (by rw [hi]; exact hd) ((hg _ _).mp k T H locs _ ls _ (z_sat_ld hs hk (g6 _ _ hc0) (fun f hf => ?_) (fun f hf => absurd hf List.not_mem_nil)))
            rw [List.mem_singleton.mp hf]
            exact ⟨a, _, r, z_app e1, hn, g3, hlt, hsl⟩
          · cases h
        · cases h
      · cases h
    · cases h
  · cases h
theorem z_sl_kept0 {H1 : Heap} {a k : Nat} {w : Value} (h : z_sl H a k w) (e : H1[a]? = H[a]?) : z_sl H1 a k w := by
  obtain ⟨cell, h1, h2, h3⟩ := h
  exact ⟨cell, by rw [e]; exact h1, h2, h3⟩
/-- a typed cell is written -/
theorem z_mem_set (hpu : pu = false) {ph k : Nat} {H1 : Heap} {a t : Nat} {ty : zTy} (h : z_mem OB D DA cl TY PHI sz raw pu T0 H0 T H locs ph) (ht : T a = some t) (hty : TY[t]? = some ty) (hc : z_cell OB D DA cl T H1 a ty) (hz : H1.size = H.size) (oq : ∀ b : Nat, b ≠ a → H1[b]? = H[b]?) (hfw : ∀ ci fl r k w, ty = .inl (ci, fl) → cl[ci]? = some r → k < r.2.2 → (r.2.1 k).2.2.2 = true → z_sl H a (D.2 ci k) w → z_sl H1 a (D.2 ci k) w) (hJ : z_J D DA TY T H1) : z_mem OB D DA cl TY PHI sz raw pu T0 H0 T H1 (locs ++ [⟨a, k⟩]) ph := by
  obtain ⟨h1, h2, h3, h4, h5⟩ := h
  refine ⟨⟨fun b u hb => ?_, hJ⟩, ⟨h2.1, (fun h => by rw [hpu] at h; cases h), z_fin_tr h2.2.2 fun b u ci fl hb hty2 => ⟨u, fl, hb, hty2, fun r k2 w x1 x2 x3 x4 => ?_⟩⟩, h3, fun q hq1 hq2 hq3 => ?_, h5.put hz oq (h2.1 a t ht)⟩
  · by_cases e : b = a
    · subst e
      rw [ht] at hb
      cases hb
      exact ⟨ty, hty, hc⟩
    · obtain ⟨ty2, g1, g2⟩ := h1.1 b u hb
      exact ⟨ty2, g1, z_cell_kept g2 (oq b e)⟩
  · by_cases e : b = a
    · subst e
      rw [ht] at hb
      cases hb
      rw [hty] at hty2
      exact hfw ci fl r k2 w (Option.some.inj hty2) x1 x2 x3 x4
    · exact z_sl_kept0 x4 (oq b e)
  · obtain ⟨g1, g2⟩ := h4 q hq1 hq2 hq3
    refine ⟨g1, ?_⟩
    rw [oq q (fun e => by subst e; rw [g1] at ht; cases ht)]
    exact g2
/-- a raw cell is written -/
theorem z_mem_setX (hpu : pu = false) {ph k : Nat} {H1 : Heap} {a : Nat} (h : z_mem OB D DA cl TY PHI sz raw pu T0 H0 T H locs ph) (ht : T a = none) (ha : sz ≤ a ∧ (H0.size ≤ a ∨ raw = some a)) (hz : H1.size = H.size) (oq : ∀ b : Nat, b ≠ a → H1[b]? = H[b]?) : z_mem OB D DA cl TY PHI sz raw pu T0 H0 T H1 (locs ++ [⟨a, k⟩]) ph := by
  obtain ⟨h1, h2, h3, h4, h5⟩ := h
  refine ⟨⟨fun b u hb => ?_, zJ_raw h1.2 ht oq⟩, ⟨h2.1, (fun h => by rw [hpu] at h; cases h), z_fin_tr h2.2.2 fun b u ci fl hb hty2 => ⟨u, fl, hb, hty2, fun r k2 w x1 x2 x3 x4 => z_sl_kept0 x4 (oq b (fun e => by subst e; rw [hb] at ht; cases ht))⟩⟩, h3, fun q hq1 hq2 hq3 => ?_, h5.put hz oq ha.1⟩
  · obtain ⟨ty2, g1, g2⟩ := h1.1 b u hb
    exact ⟨ty2, g1, z_cell_kept g2 (oq b (fun e => by subst e; rw [hb] at ht; cases ht))⟩
  · obtain ⟨g1, g2⟩ := h4 q hq1 hq2 hq3
    refine ⟨g1, ?_⟩
    rw [oq q (fun e => by
      subst e
      rcases ha.2 with h | h
      · omega
      · exact hq3 h)]
    exact g2
theorem z_fx_upd {n0 : Nat} {H1 : Heap} {a : Nat} (oq : ∀ b : Nat, b ≠ a → H1[b]? = H[b]?) (ha : ∀ (cC : ClassId) (N : Nat) (iS : Nat → Nat) (V : Nat → Value), t_OB a cC N iS H V → ∃ V', t_OB a cC N iS H1 V') : ∀ {X : List (Nat × Nat)}, z_fx D cl T sz n0 raw H env X → z_fx D cl T sz n0 raw H1 env X
  | [], h => h
  | x :: X, ⟨⟨b, h1, h2, h3, ⟨r, V, h4, h4b⟩, h5⟩, hr⟩ => by
    refine ⟨⟨b, h1, h2, h3, ?_, h5⟩, z_fx_upd oq ha hr⟩
    by_cases e : b = a
    · subst e
      obtain ⟨V', hV⟩ := ha _ _ _ _ h4b
      exact ⟨r, V', h4, hV⟩
    · exact ⟨r, V, h4, h4b.kept (oq b e)⟩
theorem z_r_putf (hpu : pu = false) (hg : z_Good p l e R s m args below meth c Q OB D DA cl TY PHI sz raw pu T0 H0 env0 nL good) (hx : p.tables.exec = Jvm.exec) (hb : c.code = cc) (hSt : z_St Ts cl FT own FL) (hD : z_Dy s m args Ts own D cl DA tys) {ini : Option Nat} (hini : ∀ j r, ini = some j → cl[j]? = some r → meth.name = "<init>" ∧ r.1 = own) {i : Nat} (hd : decode cc pc = .ok (.putfield i, 3)) (h : z_putf TY cl FT ini FL st i = some st') (k : good (pc + 3) st') : good pc st := by
  refine (hg _ _).mpr fun T H locs env ls stk hs => ?_
  unfold z_putf at h
  split at h
  · rename_i v d S q hS hq
    have hm := List.mem_of_find?_eq_some hq
    have hi0 := List.find?_some hq
    have hi : q.1 = i := z_beq hi0
    split at h
    · rename_i c1 r hc1 hr
      obtain ⟨hcc, rfl⟩ := z_cond h
      simp only [Bool.and_eq_true] at hcc
      obtain ⟨⟨hfit, hfin0⟩, hcase⟩ := hcc
      obtain ⟨vv, kk, rfl, e1, hk⟩ := z_stk_cons hS hs.2.2.2.1
      obtain ⟨vd, k2, rfl, e2, hk2⟩ := hk
      obtain ⟨w, e3, hw⟩ := z_get_ok hs.2.2.2.2.1 hc1
      have hvw : vv = w := Option.some.inj (e1.symm.trans e3)
      subst hvw
      have hnf := z_fit_ok hfit hw
      have hfin : (r.2.1 q.2.2).2.2.2 = false ∨ (meth.name = "<init>" ∧ r.1 = own) := by
        rw [Bool.or_eq_true] at hfin0
        rcases hfin0 with h1 | h1
        · exact Or.inl (by simpa using h1)
        · cases hin : ini with
          | none => rw [hin] at h1; cases h1
          | some j =>
            rw [hin] at h1
            have := z_beq h1
            subst this
            exact Or.inr (hini _ r hin hr)
      have fin : ∀ (a : Nat) (V : Nat → Value) (H1 : Heap) (cell : Cell), env[d]? = some (.ref a) → t_OB a (D.1 q.2.1) r.2.2 (D.2 q.2.1) H V → q.2.2 < r.2.2 → H[a]? = some cell → H1[a]? = some (cell.setSlot (D.2 q.2.1 q.2.2) vv) → H1.size = H.size → (∀ b : Nat, b ≠ a → H1[b]? = H[b]?) → t_OB a (D.1 q.2.1) r.2.2 (D.2 q.2.1) H1 (updV V q.2.2 vv) →
          z_mem OB D DA cl TY PHI sz raw pu T0 H0 T H1 (locs ++ [⟨a, D.2 q.2.1 q.2.2⟩]) (z_ph st) → W p l e R s m args below meth c H1 (locs ++ [⟨a, D.2 q.2.1 q.2.2⟩]) (z_C st).1 (z_C st).2 Q (F0 m (pc + 3) ls k2) := by
        intro a V H1 cell g1 g2 glt g3 g4 g5 g6 g7 g8
        refine (hg _ _).mp k T H1 _ env ls k2 ⟨hs.1, hs.2.1, hs.2.2.1, hk2, hs.2.2.2.2.1, fun f hf => ?_, fun f hf => ?_, hs.2.2.2.2.2.2.2.1, z_fx_upd g6 (fun cC N iS V2 h2 => z_ob_set h2 g3 g4) hs.2.2.2.2.2.2.2.2.1, g8⟩
        · rcases List.mem_cons.mp hf with rfl | hf
          · refine ⟨a, vv, r, g1, e1, hr, glt, ?_⟩
            obtain ⟨cell2, x1, x2, x3, x4⟩ := g7
            refine ⟨cell2, x1, x3, ?_⟩
            rw [x4 _ glt]
            simp [updV]
          · obtain ⟨hf1, hf2⟩ := List.mem_filter.mp hf
            obtain ⟨b, u, r2, y1, y2, y3, y4, y5⟩ := hs.2.2.2.2.2.1 f hf1
            refine ⟨b, u, r2, y1, y2, y3, y4, ?_⟩
            rw [Bool.or_eq_true] at hf2
            rcases hf2 with h1 | h1
            · exact z_sl_kept y5 (g6 b (z_apt_ok h1 hs y1 g1))
            · simp only [Bool.and_eq_true, Bool.not_eq_true'] at h1
              have ec := z_beq h1.1
              rw [ec] at y3 y5 ⊢
              rw [hr] at y3
              cases y3
              have hne : f.2.2.1 ≠ q.2.2 := by
                intro h3
                rw [h3] at h1
                simp at h1
              by_cases hba : b = a
              · subst hba
                obtain ⟨cell3, z1, z2, z3⟩ := y5
                rw [g3] at z1
                cases z1
                refine ⟨_, g4, z2, ?_⟩
                rw [slot_ne _ _ (z_apart hSt hD hr _ _ glt y4 (fun h => hne h.symm))]
                exact z3
              · exact z_sl_kept y5 (g6 b hba)
        · obtain ⟨hf1, hf2⟩ := List.mem_filter.mp hf
          obtain ⟨b, x, u, y1, y2, y3, y4, y5⟩ := hs.2.2.2.2.2.2.1 f hf1
          exact ⟨b, x, u, y1, y2, y3, y4, z_sl_kept y5 (g6 b (z_apt_ok hf2 hs y1 g1))⟩
      split at hcase
      · rename_i t ht
        split at hcase
        · rename_i o ho
          split at hcase
          · rename_i c0 hc0
            simp only [Bool.and_eq_true] at hcase
            obtain ⟨⟨⟨hcase, hnfin⟩, hprot⟩, hslots⟩ := hcase
            obtain ⟨ci, fl⟩ := o
            have ho1 : ci = q.2.1 := z_beq hcase.1
            subst ho1
            obtain ⟨a, r2, V, g1, g2, g3, g4, g5, g6⟩ := z_obj hs ht ho
            rw [hr] at g3
            cases g3
            rw [e2] at g1
            cases g1
            have hlt : q.2.2 < r.2.2 := by rw [← g4]; exact (List.getElem?_eq_some_iff.mp hc0).1
            refine z_putrow hx hb hSt hD hm hr g5 hfin hnf (by rw [hi]; exact hd) fun H1 cell x1 x2 x3 x4 x5 => ?_
            refine fin a V H1 cell e2 g5 hlt x1 x2 x3 x4 x5 (z_mem_set hpu hs.2.2.2.2.2.2.2.2.2 g2 ho ⟨r, hr, g4, _, x5, fun j c2 hj => ?_⟩ x3 x4 (fun ci2 fl2 r2 k2 w2 z1 z2 z3 z4 z5 => ?_) (zJ_set hs.2.2.2.2.2.2.2.2.2.1.2 hs.2.2.2.2.2.2.2.2.2.1.1 g2 (by simpa using hprot) x4 (fun ci2 fl2 hh k2 hk2 w2 hw2 => by
              rw [ho] at hh
              cases hh
              have hk3 := List.all_eq_true.mp hslots k2 hk2
              simp only [Bool.and_eq_true, Bool.not_eq_true'] at hk3
              have hkne : k2 ≠ q.2.2 := fun h => by rw [h, Nat.beq_refl] at hk3; cases hk3.1
              have hk4 : k2 < r.2.2 := by rw [← g4]; exact z_blt hk3.2
              obtain ⟨cell3, u1, u2, u3⟩ := hw2
              rw [x1] at u1
              cases u1
              refine ⟨_, x2, u2, ?_⟩
              rw [slot_ne _ _ (z_apart hSt hD hr _ _ hlt hk4 (fun h => hkne h.symm))]
              exact u3)))
            rotate_left
            · cases z1
              rw [hr] at z2
              cases z2
              have hkne : k2 ≠ q.2.2 := fun h => by rw [h] at z4; rw [z4] at hnfin; cases hnfin
              obtain ⟨cell3, u1, u2, u3⟩ := z5
              rw [x1] at u1
              cases u1
              refine ⟨_, x2, u2, ?_⟩
              rw [slot_ne _ _ (z_apart hSt hD hr _ _ hlt z3 (fun h => hkne h.symm))]
              exact u3
            by_cases hjk : j = q.2.2
            · subst hjk
              have hj : fl[q.2.2]? = some c2 := hj
              have hc0 : fl[q.2.2]? = some c0 := hc0
              rw [hc0] at hj
              cases hj
              have : updV V q.2.2 vv q.2.2 = vv := by simp [updV]
              rw [this]
              exact z_le_ok hcase.2 hw
            · have : updV V q.2.2 vv j = V j := by simp [updV, hjk]
              rw [this]
              exact g6 j c2 hj
          · cases hcase
        · cases hcase
      · rename_i hn
        obtain ⟨x, hx1, hx2⟩ := List.any_eq_true.mp hcase
        rw [Bool.and_eq_true] at hx2
        obtain ⟨a, g1, g2, g3, r2, V, g4, g5⟩ := z_fx_in hs.2.2.2.2.2.2.2.2.1 x hx1
        rw [z_beq hx2.1, e2] at g1
        cases g1
        rw [z_beq hx2.2] at g4 g5
        rw [hr] at g4
        cases g4
        have hlt : q.2.2 < r.2.2 := by
          obtain ⟨r3, y1, y2, _⟩ := hSt.2 q hm
          rw [hr] at y1
          cases y1
          exact y2
        refine z_putrow hx hb hSt hD hm hr g5 hfin hnf (by rw [hi]; exact hd) fun H1 cell x1 x2 x3 x4 x5 => ?_
        exact fin a V H1 cell e2 g5 hlt x1 x2 x3 x4 x5 (z_mem_setX hpu hs.2.2.2.2.2.2.2.2.2 g2 g3 x3 x4)
      · cases hcase
    · cases h
  · cases h
end ZFIELDS2
