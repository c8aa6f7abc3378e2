/-! Branches. -/
abbrev zC : Type := Jvm.ClassFile.Cond
def z_rel (k : zC) (x y : Int) : Prop := match k with
  | .eq => x = y
  | .ne => x ≠ y
  | .lt => x < y
  | .ge => y ≤ x
  | .gt => y < x
  | .le => x ≤ y
def z_not (k : zC) : zC := match k with
  | .eq => .ne
  | .ne => .eq
  | .lt => .ge
  | .ge => .lt
  | .gt => .le
  | .le => .gt
def z_swp (k : zC) : zC := match k with
  | .eq => .eq
  | .ne => .ne
  | .lt => .gt
  | .ge => .le
  | .gt => .lt
  | .le => .ge
theorem z_rel_not {k : zC} {x y : Int} (h : ¬ z_rel k x y) : z_rel (z_not k) x y := by
  cases k <;> simp only [z_rel, z_not, ne_eq, Classical.not_not] at * <;> omega
theorem z_rel_swp {k : zC} {x y : Int} (h : z_rel k x y) : z_rel (z_swp k) y x := by
  cases k <;> simp only [z_rel, z_swp, ne_eq] at * <;> omega
def z_rf (k : zC) (a b : zR) : zR := match k with
  | .eq => (z_max a.1 b.1, z_min a.2 b.2)
  | .ne => (cond (z_ile b.2 b.1 && z_ile a.1 b.1 && z_ile b.1 a.1) (a.1 + 1) a.1, cond (z_ile b.2 b.1 && z_ile a.2 b.1 && z_ile b.1 a.2) (a.2 - 1) a.2)
  | .lt => (a.1, z_min a.2 (b.2 - 1))
  | .ge => (z_max a.1 b.1, a.2)
  | .gt => (z_max a.1 (b.1 + 1), a.2)
  | .le => (a.1, z_min a.2 b.2)
theorem z_min_ge {a b x : Int} (h1 : x ≤ a) (h2 : x ≤ b) : x ≤ z_min a b := by unfold z_min; split <;> omega
theorem z_max_le {a b x : Int} (h1 : a ≤ x) (h2 : b ≤ x) : z_max a b ≤ x := by unfold z_max; split <;> omega
theorem z_rf_ok {k : zC} {a b : zR} {x y : Int32} (hx : z_in a x) (hy : z_in b y) (h : z_rel k x.toInt y.toInt) : z_in (z_rf k a b) x := by
  obtain ⟨x1, x2⟩ := hx
  obtain ⟨y1, y2⟩ := hy
  cases k <;> simp only [z_rel] at h
  · exact ⟨z_max_le x1 (by omega), z_min_ge x2 (by omega)⟩
  · refine ⟨?_, ?_⟩
    · show cond _ _ _ ≤ _
      cases hc : z_ile b.2 b.1 && z_ile a.1 b.1 && z_ile b.1 a.1 with
      | false => exact x1
      | true =>
        simp only [Bool.and_eq_true] at hc
        have := z_ile_ok hc.1.1; have := z_ile_ok hc.1.2; have := z_ile_ok hc.2
        show a.1 + 1 ≤ _
        omega
    · show _ ≤ cond _ _ _
      cases hc : z_ile b.2 b.1 && z_ile a.2 b.1 && z_ile b.1 a.2 with
      | false => exact x2
      | true =>
        simp only [Bool.and_eq_true] at hc
        have := z_ile_ok hc.1.1; have := z_ile_ok hc.1.2; have := z_ile_ok hc.2
        show _ ≤ a.2 - 1
        omega
  · exact ⟨x1, z_min_ge x2 (by omega)⟩
  · exact ⟨z_max_le x1 (by omega), x2⟩
  · exact ⟨z_max_le x1 (by omega), x2⟩
  · exact ⟨x1, z_min_ge x2 (by omega)⟩
def z_rr (k : zC) (x y : Nat) : List (Nat × Nat × Int) := match k with
  | .eq => [(x, y, 0), (y, x, 0)]
  | .ne => []
  | .lt => [(y, x, 1)]
  | .ge => [(x, y, 0)]
  | .gt => [(x, y, 1)]
  | .le => [(y, x, 0)]
theorem z_rr_ok {env : List Value} {k : zC} {x y : Nat} {vx vy : Int32} (h1 : env[x]? = some (.int vx)) (h2 : env[y]? = some (.int vy)) (h : z_rel k vx.toInt vy.toInt) : z_fr env (z_rr k x y) := by
  intro q hq
  cases k <;> simp only [z_rr, z_rel, List.mem_cons, List.not_mem_nil, or_false, false_or] at hq h
  · rcases hq with rfl | rfl
    · exact ⟨vy, vx, h1, h2, by show vy.toInt + 0 ≤ _; omega⟩
    · exact ⟨vx, vy, h2, h1, by show vx.toInt + 0 ≤ _; omega⟩
  · subst hq; exact ⟨vx, vy, h2, h1, by show vx.toInt + 1 ≤ _; omega⟩
  · subst hq; exact ⟨vy, vx, h1, h2, by show vy.toInt + 0 ≤ _; omega⟩
  · subst hq; exact ⟨vy, vx, h1, h2, by show vy.toInt + 1 ≤ _; omega⟩
  · subst hq; exact ⟨vx, vy, h2, h1, by show vx.toInt + 0 ≤ _; omega⟩
/-- known to be above by so much at least -/
def z_kn (R : List (Nat × Nat × Int)) (x y : Nat) (n : Int) : Bool := match z_lbs R 2 x y with
  | some k => z_ile n k
  | none => false
theorem z_kn_ok {env : List Value} {Rr : List (Nat × Nat × Int)} (hr : z_fr env Rr) {x y : Nat} {vx vy : Int32} {n : Int} (h1 : env[x]? = some (.int vx)) (h2 : env[y]? = some (.int vy)) (h : z_kn Rr x y n = true) : vy.toInt + n ≤ vx.toInt := by
  unfold z_kn at h
  split at h
  · rename_i k hk
    obtain ⟨v, e1, e2⟩ := z_lbs_ok hr hk h1
    have : v = vy := by have := e1.symm.trans h2; cases this; rfl
    subst this
    have := z_ile_ok h
    omega
  · cases h
/-- the same, by more steps -/
def z_kx (R : List (Nat × Nat × Int)) (x y : Nat) (n : Int) : Bool := match z_lbs R 6 x y with
  | some k => z_ile n k
  | none => false
theorem z_kx_ok {env : List Value} {Rr : List (Nat × Nat × Int)} (hr : z_fr env Rr) {x y : Nat} {vx vy : Int32} {n : Int} (h1 : env[x]? = some (.int vx)) (h2 : env[y]? = some (.int vy)) (h : z_kx Rr x y n = true) : vy.toInt + n ≤ vx.toInt := by
  unfold z_kx at h
  split at h
  · rename_i k hk
    obtain ⟨v, e1, e2⟩ := z_lbs_ok hr hk h1
    have : v = vy := by have := e1.symm.trans h2; cases this; rfl
    subst this
    have := z_ile_ok h
    omega
  · cases h
/-- the relation can't be -/
def z_bad (R : List (Nat × Nat × Int)) (k : zC) (x y : Nat) : Bool := match k with
  | .eq => z_kn R x y 1 || z_kn R y x 1
  | .ne => z_kn R x y 0 && z_kn R y x 0
  | .lt => z_kn R x y 0
  | .ge => z_kn R y x 1
  | .gt => z_kn R y x 0
  | .le => z_kn R x y 1
theorem z_bad_ok {env : List Value} {Rr : List (Nat × Nat × Int)} (hr : z_fr env Rr) {k : zC} {x y : Nat} {vx vy : Int32} (h1 : env[x]? = some (.int vx)) (h2 : env[y]? = some (.int vy)) (h : z_bad Rr k x y = true) (hk : z_rel k vx.toInt vy.toInt) : False := by
  cases k <;> simp only [z_bad, z_rel, Bool.or_eq_true, Bool.and_eq_true] at h hk
  · rcases h with h | h
    · have := z_kn_ok hr h1 h2 h; omega
    · have := z_kn_ok hr h2 h1 h; omega
  · have := z_kn_ok hr h1 h2 h.1; have := z_kn_ok hr h2 h1 h.2; omega
  · have := z_kn_ok hr h1 h2 h; omega
  · have := z_kn_ok hr h2 h1 h; omega
  · have := z_kn_ok hr h2 h1 h; omega
  · have := z_kn_ok hr h1 h2 h; omega
/-- where a branch goes if the relation holds; nowhere if it can't -/
def z_bri (st : zS) (k : zC) (x y : Nat) (a b : zR) (S : List Nat) (pc : Nat) : List (Nat × zS) :=
  cond (z_ile (z_rf k a b).1 (z_rf k a b).2 && z_ile (z_rf (z_swp k) b a).1 (z_rf (z_swp k) b a).2 && !(z_bad (z_R st) k x y)) [(pc, z_mor st S [(x, .inl (z_rf k a b)), (y, .inl (z_rf (z_swp k) b a))] (z_rr k x y))] []
def z_brz (st : zS) (k : zC) (x : Nat) (a : zR) (S : List Nat) (pc : Nat) : List (Nat × zS) :=
  cond (z_ile (z_rf k a (0, 0)).1 (z_rf k a (0, 0)).2) [(pc, z_mor st S [(x, .inl (z_rf k a (0, 0)))] [])] []
def z_to (pc : Nat) (off : Int) : Option Nat := cond (z_ile 0 ((pc : Int) + off)) (some ((pc : Int) + off).toNat) none
theorem z_to_ok {pc : Nat} {off : Int} {t : Nat} (h : z_to pc off = some t) : (pc : Int) + off = (t : Int) := by
  obtain ⟨h1, rfl⟩ := z_cond h
  have := z_ile_ok h1
  omega
def z_icmp (st : zS) (pc : Nat) (k : zC) (off : Int) : Option (List (Nat × zS)) := match z_S st with
  | y :: x :: S => (match z_get (z_V st) x, z_get (z_V st) y, z_to pc off with
    | some (.inl a), some (.inl b), some t => some (z_bri st k x y a b S t ++ z_bri st (z_not k) x y a b S (pc + 3))
    | _, _, _ => none)
  | _ => none
def z_icnd (st : zS) (pc : Nat) (k : zC) (off : Int) : Option (List (Nat × zS)) := match z_S st with
  | x :: S => (match z_get (z_V st) x, z_to pc off with
    | some (.inl a), some t => some (z_brz st k x a S t ++ z_brz st (z_not k) x a S (pc + 3))
    | _, _ => none)
  | _ => none
section ZJUMPS
variable {p : Program} {l : Launch} {e : Env} {R : Room} {s : State} {m : MethodId} {args : Array Value} {below : List Frame} {meth : Method} {c : Code} {Q : State → Prop} {cc : ByteArray} {pc : Nat}
variable {OB : Nat → Nat} {D : va_G} {DA : Nat → ClassId} {cl : List vw_C} {TY : List zTy} {PHI : List (List Nat)} {sz : Nat} {raw : Option Nat} {pu : Bool} {T0 : zTp} {H0 : Heap} {env0 : List Value} {nL : Nat} {st st' : zS} {good : Nat → zS → Prop}
variable {H : Heap} {locs : List Loc} {cells slots : Nat} {ls : Array Slot} {rest : List Value}
theorem z_icmp_row (hx : p.tables.exec = Jvm.exec) (hb : c.code = cc) {x y : Int32} {k : zC} {off : Int} {t : Nat} (hd : decode cc pc = .ok (.if_icmp k off, 3)) (ht : (pc : Int) + off = (t : Int))
    (kt : z_rel k x.toInt y.toInt → W p l e R s m args below meth c H locs cells slots Q (F0 m t ls rest)) (kf : z_rel (z_not k) x.toInt y.toInt → W p l e R s m args below meth c H locs cells slots Q (F0 m (pc + 3) ls rest)) : W p l e R s m args below meth c H locs cells slots Q (F0 m pc ls (.int y :: .int x :: rest)) := by
  cases k
  · exact lv_icmp_eq hx hb hd ht (fun h => kt (by rw [h]; rfl)) (fun h => kf (fun q => h (Int32.toInt_inj.mp q)))
  · exact lv_icmp_ne hx hb hd ht (fun h => kt (fun q => h (Int32.toInt_inj.mp q))) (fun h => kf (by rw [h]; rfl))
  · exact lv_icmp_lt hx hb hd ht (fun h => kt (Int32.lt_iff_toInt_lt.mp h)) (fun h => kf (Int.not_lt.mp (fun q => h (Int32.lt_iff_toInt_lt.mpr q))))
  · exact lv_icmp_ge hx hb hd ht (fun h => kt (Int32.le_iff_toInt_le.mp h)) (fun h => kf (Int.not_le.mp (fun q => h (Int32.le_iff_toInt_le.mpr q))))
  · exact lv_icmp_gt hx hb hd ht (fun h => kt (Int32.lt_iff_toInt_lt.mp h)) (fun h => kf (Int.not_lt.mp (fun q => h (Int32.lt_iff_toInt_lt.mpr q))))
  · exact lv_icmp_le hx hb hd ht (fun h => kt (Int32.le_iff_toInt_le.mp h)) (fun h => kf (Int.not_le.mp (fun q => h (Int32.le_iff_toInt_le.mpr q))))
theorem z_icnd_row (hx : p.tables.exec = Jvm.exec) (hb : c.code = cc) {x : Int32} {k : zC} {off : Int} {t : Nat} (hd : decode cc pc = .ok (.ifCond k off, 3)) (ht : (pc : Int) + off = (t : Int))
    (kt : z_rel k x.toInt 0 → W p l e R s m args below meth c H locs cells slots Q (F0 m t ls rest)) (kf : z_rel (z_not k) x.toInt 0 → W p l e R s m args below meth c H locs cells slots Q (F0 m (pc + 3) ls rest)) : W p l e R s m args below meth c H locs cells slots Q (F0 m pc ls (.int x :: rest)) := by
  have z0 : (0 : Int32).toInt = 0 := rfl
  cases k
  · exact lv_if_eq hx hb hd ht (fun h => kt (by rw [h]; rfl)) (fun h => kf (fun q => h (Int32.toInt_inj.mp (q.trans z0.symm))))
  · exact lv_if_ne hx hb hd ht (fun h => kt (fun q => h (Int32.toInt_inj.mp (q.trans z0.symm)))) (fun h => kf (by rw [h]; rfl))
  · exact lv_if_lt hx hb hd ht (fun h => kt (Int32.lt_iff_toInt_lt.mp h)) (fun h => kf (Int.not_lt.mp (fun q => h (Int32.lt_iff_toInt_lt.mpr q))))
  · exact lv_if_ge hx hb hd ht (fun h => kt (Int32.le_iff_toInt_le.mp h)) (fun h => kf (Int.not_le.mp (fun q => h (Int32.le_iff_toInt_le.mpr q))))
  · exact lv_if_gt hx hb hd ht (fun h => kt (Int32.lt_iff_toInt_lt.mp h)) (fun h => kf (Int.not_lt.mp (fun q => h (Int32.lt_iff_toInt_lt.mpr q))))
  · exact lv_if_le hx hb hd ht (fun h => kt (Int32.le_iff_toInt_le.mp h)) (fun h => kf (Int.not_le.mp (fun q => h (Int32.le_iff_toInt_le.mpr q))))
theorem z_bri_ok (hg : z_Good p l e R s m args below meth c Q OB D DA cl TY PHI sz raw pu T0 H0 env0 nL good) {T : zTp} {env : List Value} {stk : List Value} (hs : z_sat OB D DA cl TY PHI sz raw pu T0 H0 env0 nL st T H locs env ls stk) {k : zC} {x y : Nat} {vx vy : Int32} {a b : zR} {S : List Nat} {t : Nat} {kk : List Value} (e1 : env[x]? = some (.int vx)) (e2 : env[y]? = some (.int vy)) (hxa : z_in a vx) (hyb : z_in b vy) (hS : z_stk env S kk)
    (hall : ∀ q ∈ z_bri st k x y a b S t, good q.1 q.2) (hr : z_rel k vx.toInt vy.toInt) : W p l e R s m args below meth c H locs (z_C st).1 (z_C st).2 Q (F0 m t ls kk) := by
  have r1 := z_rf_ok hxa hyb hr
  have r2 := z_rf_ok hyb hxa (z_rel_swp hr)
  unfold z_bri at hall
  have hc : (z_ile (z_rf k a b).1 (z_rf k a b).2 && z_ile (z_rf (z_swp k) b a).1 (z_rf (z_swp k) b a).2 && !(z_bad (z_R st) k x y)) = true := by
    simp only [Bool.and_eq_true, Bool.not_eq_true']
    refine ⟨⟨decide_eq_true (Int.le_trans r1.1 r1.2), decide_eq_true (Int.le_trans r2.1 r2.2)⟩, ?_⟩
    cases hb : z_bad (z_R st) k x y with
    | false => rfl
    | true => exact (z_bad_ok hs.2.2.2.2.2.2.2.1 e1 e2 hb hr).elim
  rw [hc] at hall
  have := hall _ (List.mem_singleton.mpr rfl)
  refine (hg _ _).mp this T H locs env ls kk (z_sat_mor hs hS (fun q hq => ?_) (z_rr_ok e1 e2 hr))
  rcases List.mem_cons.mp hq with rfl | hq
  · exact ⟨_, e1, z_vi r1⟩
  · rw [List.mem_singleton.mp hq]; exact ⟨_, e2, z_vi r2⟩
theorem z_brz_ok (hg : z_Good p l e R s m args below meth c Q OB D DA cl TY PHI sz raw pu T0 H0 env0 nL good) {T : zTp} {env : List Value} {stk : List Value} (hs : z_sat OB D DA cl TY PHI sz raw pu T0 H0 env0 nL st T H locs env ls stk) {k : zC} {x : Nat} {vx : Int32} {a : zR} {S : List Nat} {t : Nat} {kk : List Value} (e1 : env[x]? = some (.int vx)) (hxa : z_in a vx) (hS : z_stk env S kk)
    (hall : ∀ q ∈ z_brz st k x a S t, good q.1 q.2) (hr : z_rel k vx.toInt 0) : W p l e R s m args below meth c H locs (z_C st).1 (z_C st).2 Q (F0 m t ls kk) := by
  have r1 := z_rf_ok (b := (0, 0)) (y := 0) hxa ⟨Int.le_refl _, Int.le_refl _⟩ hr
  unfold z_brz at hall
  have hc : z_ile (z_rf k a (0, 0)).1 (z_rf k a (0, 0)).2 = true := decide_eq_true (Int.le_trans r1.1 r1.2)
  rw [hc] at hall
  have := hall _ (List.mem_singleton.mpr rfl)
  refine (hg _ _).mp this T H locs env ls kk (z_sat_mor hs hS (fun q hq => ?_) (fun q hq => absurd hq List.not_mem_nil))
  rw [List.mem_singleton.mp hq]; exact ⟨_, e1, z_vi r1⟩
theorem z_r_icmp (hg : z_Good p l e R s m args below meth c Q OB D DA cl TY PHI sz raw pu T0 H0 env0 nL good) (hx : p.tables.exec = Jvm.exec) (hb : c.code = cc) {k : zC} {off : Int} (hd : decode cc pc = .ok (.if_icmp k off, 3)) {L : List (Nat × zS)} (h : z_icmp st pc k off = some L) (hall : ∀ q ∈ L, good q.1 q.2) : good pc st := by
  refine (hg _ _).mpr fun T H locs env ls stk hs => ?_
  unfold z_icmp at h
  split at h
  · rename_i y x S hS
    split at h
    · rename_i a b t ha hb2 ht
      cases h
      obtain ⟨vy, kk, rfl, e1, hk⟩ := z_stk_cons hS hs.2.2.2.1
      obtain ⟨vx, k2, rfl, e2, hk2⟩ := hk
      obtain ⟨v, e3, x1, rfl, hxa⟩ := z_get_ok hs.2.2.2.2.1 ha
      obtain ⟨w, e4, y1, rfl, hyb⟩ := z_get_ok hs.2.2.2.2.1 hb2
      have q1 : vx = .int x1 := Option.some.inj (e2.symm.trans e3)
      have q2 : vy = .int y1 := Option.some.inj (e1.symm.trans e4)
      subst q1; subst q2
      exact z_icmp_row hx hb hd (z_to_ok ht) (z_bri_ok hg hs e3 e4 hxa hyb hk2 (fun q hq => hall q (List.mem_append_left _ hq))) (z_bri_ok hg hs e3 e4 hxa hyb hk2 (fun q hq => hall q (List.mem_append_right _ hq)))
    · cases h
  · cases h
theorem z_r_icnd (hg : z_Good p l e R s m args below meth c Q OB D DA cl TY PHI sz raw pu T0 H0 env0 nL good) (hx : p.tables.exec = Jvm.exec) (hb : c.code = cc) {k : zC} {off : Int} (hd : decode cc pc = .ok (.ifCond k off, 3)) {L : List (Nat × zS)} (h : z_icnd st pc k off = some L) (hall : ∀ q ∈ L, good q.1 q.2) : good pc st := by
  refine (hg _ _).mpr fun T H locs env ls stk hs => ?_
  unfold z_icnd at h
  split at h
  · rename_i x S hS
    split at h
    · rename_i a t ha ht
      cases h
      obtain ⟨vx, k2, rfl, e2, hk2⟩ := z_stk_cons hS hs.2.2.2.1
      obtain ⟨v, e3, x1, rfl, hxa⟩ := z_get_ok hs.2.2.2.2.1 ha
      have q1 : vx = .int x1 := Option.some.inj (e2.symm.trans e3)
      subst q1
      exact z_icnd_row hx hb hd (z_to_ok ht) (z_brz_ok hg hs e3 hxa hk2 (fun q hq => hall q (List.mem_append_left _ hq))) (z_brz_ok hg hs e3 hxa hk2 (fun q hq => hall q (List.mem_append_right _ hq)))
    · cases h
  · cases h
theorem z_r_goto (hg : z_Good p l e R s m args below meth c Q OB D DA cl TY PHI sz raw pu T0 H0 env0 nL good) (hx : p.tables.exec = Jvm.exec) (hb : c.code = cc) {off : Int} {t : Nat} (hd : decode cc pc = .ok (.goto off, 3)) (h : z_to pc off = some t) (k : good t st) : good pc st :=
  (hg _ _).mpr fun T H locs env ls stk hs => lv_goto hx hb hd (z_to_ok h) ((hg _ _).mp k T H locs env ls stk hs)
end ZJUMPS
