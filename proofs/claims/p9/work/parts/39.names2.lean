/-! More rules over named cells: sums, jumps, fields, arrays. -/
def zv_up (g : Int → Int) (j v : Int) : Int → Int := fun i => if i = j then v else g i
theorem zv_up_s {g : Int → Int} {j v : Int} : zv_up g j v j = v := if_pos rfl
theorem zv_up_n {g : Int → Int} {j v i : Int} (h : i ≠ j) : zv_up g j v i = g i := if_neg h
def zv_bop (ins : Instr) : Option (Int32 → Int32 → Int32) := match ins with
  | .iadd => some (fun x y => x + y)
  | .isub => some (fun x y => x - y)
  | .imul => some (fun x y => x * y)
  | .iand => some (fun x y => x &&& y)
  | .ior => some (fun x y => x ||| y)
  | .ixor => some (fun x y => x ^^^ y)
  | .ishl => some (fun x y => x <<< (y &&& 31))
  | .ishr => some (fun x y => x >>> (y &&& 31))
  | _ => none
def zv_bop0 (ins : Instr) : Option (Int32 → Int32 → Int32) := match ins with
  | .idiv => some (fun x y => x / y)
  | .irem => some (fun x y => x - x / y * y)
  | _ => none
theorem zv_and1 {b : Int} {x : Int32} (h : 0 ≤ b) (k : z_in (z_and z_full (b, b)) x) : 0 ≤ x.toInt ∧ x.toInt ≤ b := by
  have e : z_and z_full (b, b) = (0, b) := by
    unfold z_and z_full
    rw [if_neg (by rintro ⟨q, -⟩; cases q), if_neg (by decide), if_pos h]
  rw [e] at k
  exact k
section ZVMORE
variable {cl : List vw_C} {FT : Nat → Nat → FieldType} {KXf : (Nat → Nat) → Nat → State → Heap → Prop} {TBL : List Cond} {MT : List zM} {y : zNL} {mm : zM} {K : zK} {rm : Nat × Nat} {good : Nat → List zNV → List zNV → List zNV → List (Int → Int) → Prop}
variable {pc : Nat} {L S : List zNV} {F : List zNV} {G : List (Int → Int)}
theorem zv_rgl (hB : zv_B cl FT KXf TBL MT y mm K rm good) {i : Nat} {v : Int} (hl : zv_l L i = some (.inl v)) (k : -2147483648 ≤ v → v ≤ 2147483647 → good pc L S F G) : good pc L S F G := by
  obtain ⟨p, l, e, R, s, m, args, below, meth, c, Q, OB, D, DA, sz, A, H0, Ts, cells, slots, ⟨hx, hb, hml, hD, hKS⟩, ⟨hsz, hXp, hX, -⟩, ⟨hwf, hinj, hge, hOB⟩, hg⟩ := hB
  refine (hg _ _ _ _ _).mpr fun H locs ls stk h1 h2 h3 h4 h5 => ?_
  obtain ⟨lv, a1, a2, a3⟩ := h4
  obtain ⟨w, ⟨x, rfl, rfl⟩, a4⟩ := a3 i _ hl trivial
  exact (hg _ _ _ _ _).mp (k (z_lo x) (z_hi x)) H locs ls stk h1 h2 h3 ⟨lv, a1, a2, a3⟩ h5
theorem zv_rgs (hB : zv_B cl FT KXf TBL MT y mm K rm good) {v : Int} (k : -2147483648 ≤ v → v ≤ 2147483647 → good pc L (.inl v :: S) F G) : good pc L (.inl v :: S) F G := by
  obtain ⟨p, l, e, R, s, m, args, below, meth, c, Q, OB, D, DA, sz, A, H0, Ts, cells, slots, ⟨hx, hb, hml, hD, hKS⟩, ⟨hsz, hXp, hX, -⟩, ⟨hwf, hinj, hge, hOB⟩, hg⟩ := hB
  refine (hg _ _ _ _ _).mpr fun H locs ls stk h1 h2 h3 h4 h5 => ?_
  obtain ⟨w, st, rfl, ⟨x, rfl, rfl⟩, h6⟩ := h5
  exact (hg _ _ _ _ _).mp (k (z_lo x) (z_hi x)) H locs ls _ h1 h2 h3 h4 ⟨_, _, rfl, ⟨x, rfl, rfl⟩, h6⟩
theorem zv_bin (hB : zv_B cl FT KXf TBL MT y mm K rm good) {ins : Instr} {op : Int32 → Int32 → Int32} {a b : Int} (hd : decode mm.2.1 pc = .ok (ins, 1)) (ho : zv_bop ins = some op) (k : ∀ u v : Int32, u.toInt = a → v.toInt = b → good (pc + 1) L (.inl (op u v).toInt :: S) F G) : good pc L (.inl b :: .inl a :: S) F G := by
  obtain ⟨p, l, e, R, s, m, args, below, meth, c, Q, OB, D, DA, sz, A, H0, Ts, cells, slots, ⟨hx, hb, hml, hD, hKS⟩, ⟨hsz, hXp, hX, -⟩, ⟨hwf, hinj, hge, hOB⟩, hg⟩ := hB
  refine (hg _ _ _ _ _).mpr fun H locs ls stk h1 h2 h3 h4 h5 => ?_
  obtain ⟨w, st, rfl, ⟨v, rfl, hv⟩, w2, st2, rfl, ⟨u, rfl, hu⟩, h6⟩ := h5
  have kk := (hg _ _ _ _ _).mp (k u v hu hv) H locs ls (.int (op u v) :: st2) h1 h2 h3 h4 ⟨_, _, rfl, ⟨_, rfl, rfl⟩, h6⟩
  unfold zv_bop at ho
  split at ho
  · cases ho; exact lv_iadd hx hb hd kk
  · cases ho; exact lv_isub hx hb hd kk
  · cases ho; exact lv_imul hx hb hd kk
  · cases ho; exact lv_iand hx hb hd kk
  · cases ho; exact lv_ior hx hb hd kk
  · cases ho; exact lv_ixor hx hb hd kk
  · cases ho; exact lv_ishl hx hb hd kk
  · cases ho; exact lv_ishr hx hb hd kk
  · cases ho
theorem zv_bin0 (hB : zv_B cl FT KXf TBL MT y mm K rm good) {ins : Instr} {op : Int32 → Int32 → Int32} {a b : Int} (hd : decode mm.2.1 pc = .ok (ins, 1)) (ho : zv_bop0 ins = some op) (hb0 : b ≠ 0) (k : ∀ u v : Int32, u.toInt = a → v.toInt = b → good (pc + 1) L (.inl (op u v).toInt :: S) F G) : good pc L (.inl b :: .inl a :: S) F G := by
  obtain ⟨p, l, e, R, s, m, args, below, meth, c, Q, OB, D, DA, sz, A, H0, Ts, cells, slots, ⟨hx, hb, hml, hD, hKS⟩, ⟨hsz, hXp, hX, -⟩, ⟨hwf, hinj, hge, hOB⟩, hg⟩ := hB
  refine (hg _ _ _ _ _).mpr fun H locs ls stk h1 h2 h3 h4 h5 => ?_
  obtain ⟨w, st, rfl, ⟨v, rfl, hv⟩, w2, st2, rfl, ⟨u, rfl, hu⟩, h6⟩ := h5
  have kk := (hg _ _ _ _ _).mp (k u v hu hv) H locs ls (.int (op u v) :: st2) h1 h2 h3 h4 ⟨_, _, rfl, ⟨_, rfl, rfl⟩, h6⟩
  have hv0 : ¬ v = 0 := fun q => hb0 (by rw [← hv, q]; rfl)
  unfold zv_bop0 at ho
  split at ho
  · cases ho; exact lv_idiv hx hb hd hv0 kk
  · cases ho; exact lv_irem hx hb hd hv0 kk
  · cases ho
theorem zv_neg (hB : zv_B cl FT KXf TBL MT y mm K rm good) {a : Int} (hd : decode mm.2.1 pc = .ok (.ineg, 1)) (k : ∀ u : Int32, u.toInt = a → good (pc + 1) L (.inl (-u).toInt :: S) F G) : good pc L (.inl a :: S) F G := by
  obtain ⟨p, l, e, R, s, m, args, below, meth, c, Q, OB, D, DA, sz, A, H0, Ts, cells, slots, ⟨hx, hb, hml, hD, hKS⟩, ⟨hsz, hXp, hX, -⟩, ⟨hwf, hinj, hge, hOB⟩, hg⟩ := hB
  refine (hg _ _ _ _ _).mpr fun H locs ls stk h1 h2 h3 h4 h5 => ?_
  obtain ⟨w2, st2, rfl, ⟨u, rfl, hu⟩, h6⟩ := h5
  exact lv_ineg hx hb hd ((hg _ _ _ _ _).mp (k u hu) H locs ls (.int (-u) :: st2) h1 h2 h3 h4 ⟨_, _, rfl, ⟨_, rfl, rfl⟩, h6⟩)
/-- any value -/
theorem zv_any (hB : zv_B cl FT KXf TBL MT y mm K rm good) {ins : Instr} {op : Int32 → Int32 → Int32} {a b : Int} (hd : decode mm.2.1 pc = .ok (ins, 1)) (ho : zv_bop ins = some op) (k : ∀ v : Int, -2147483648 ≤ v → v ≤ 2147483647 → good (pc + 1) L (.inl v :: S) F G) : good pc L (.inl b :: .inl a :: S) F G :=
  zv_bin hB hd ho fun u v _ _ => k _ (z_lo _) (z_hi _)
theorem zv_any0 (hB : zv_B cl FT KXf TBL MT y mm K rm good) {ins : Instr} {op : Int32 → Int32 → Int32} {a b : Int} (hd : decode mm.2.1 pc = .ok (ins, 1)) (ho : zv_bop0 ins = some op) (hb0 : b ≠ 0) (k : ∀ v : Int, -2147483648 ≤ v → v ≤ 2147483647 → good (pc + 1) L (.inl v :: S) F G) : good pc L (.inl b :: .inl a :: S) F G :=
  zv_bin0 hB hd ho hb0 fun u v _ _ => k _ (z_lo _) (z_hi _)
theorem zv_iadd (hB : zv_B cl FT KXf TBL MT y mm K rm good) {a b : Int} (hd : decode mm.2.1 pc = .ok (.iadd, 1)) (h1 : -2147483648 ≤ a + b) (h2 : a + b ≤ 2147483647) (k : good (pc + 1) L (.inl (a + b) :: S) F G) : good pc L (.inl b :: .inl a :: S) F G :=
  zv_bin hB hd rfl fun u v hu hv => by
    have : (u + v).toInt = a + b := by rw [Int32.toInt_add, hu, hv]; exact z_bmod h1 h2
    show good _ _ (.inl (u + v).toInt :: _) _ _
    rw [this]; exact k
theorem zv_isub (hB : zv_B cl FT KXf TBL MT y mm K rm good) {a b : Int} (hd : decode mm.2.1 pc = .ok (.isub, 1)) (h1 : -2147483648 ≤ a - b) (h2 : a - b ≤ 2147483647) (k : good (pc + 1) L (.inl (a - b) :: S) F G) : good pc L (.inl b :: .inl a :: S) F G :=
  zv_bin hB hd rfl fun u v hu hv => by
    have : (u - v).toInt = a - b := by rw [Int32.toInt_sub, hu, hv]; exact z_bmod h1 h2
    show good _ _ (.inl (u - v).toInt :: _) _ _
    rw [this]; exact k
theorem zv_imul (hB : zv_B cl FT KXf TBL MT y mm K rm good) {a b : Int} (hd : decode mm.2.1 pc = .ok (.imul, 1)) (h1 : -2147483648 ≤ a * b) (h2 : a * b ≤ 2147483647) (k : good (pc + 1) L (.inl (a * b) :: S) F G) : good pc L (.inl b :: .inl a :: S) F G :=
  zv_bin hB hd rfl fun u v hu hv => by
    have : (u * v).toInt = a * b := by rw [Int32.toInt_mul, hu, hv]; exact z_bmod h1 h2
    show good _ _ (.inl (u * v).toInt :: _) _ _
    rw [this]; exact k
/-- a byte without its sign, and the like -/
theorem zv_and (hB : zv_B cl FT KXf TBL MT y mm K rm good) {a b : Int} (hd : decode mm.2.1 pc = .ok (.iand, 1)) (hb0 : 0 ≤ b) (k : ∀ v : Int, 0 ≤ v → v ≤ b → good (pc + 1) L (.inl v :: S) F G) : good pc L (.inl b :: .inl a :: S) F G :=
  zv_bin hB hd rfl fun u v hu hv => by
    have := z_and_ok (a := z_full) (b := (b, b)) (x := u) (y := v) ⟨z_lo u, z_hi u⟩ ⟨by rw [hv]; exact Int.le_refl _, by rw [hv]; exact Int.le_refl _⟩
    exact k _ (zv_and1 hb0 this).1 (zv_and1 hb0 this).2
theorem zv_dup (hB : zv_B cl FT KXf TBL MT y mm K rm good) {v : zNV} (hd : decode mm.2.1 pc = .ok (.dup, 1)) (hv1 : zv_n1 v = true) (k : good (pc + 1) L (v :: v :: S) F G) : good pc L (v :: S) F G := by
  obtain ⟨p, l, e, R, s, m, args, below, meth, c, Q, OB, D, DA, sz, A, H0, Ts, cells, slots, ⟨hx, hb, hml, hD, hKS⟩, ⟨hsz, hXp, hX, -⟩, ⟨hwf, hinj, hge, hOB⟩, hg⟩ := hB
  refine (hg _ _ _ _ _).mpr fun H locs ls stk h1 h2 h3 h4 h5 => ?_
  obtain ⟨w, st, rfl, hv, h6⟩ := h5
  exact lv_dup hx hb hd (zv_v1 hv1 hv) ((hg _ _ _ _ _).mp k H locs ls _ h1 h2 h3 h4 ⟨_, _, rfl, hv, _, _, rfl, hv, h6⟩)
theorem zv_dupx1 (hB : zv_B cl FT KXf TBL MT y mm K rm good) {v u : zNV} (hd : decode mm.2.1 pc = .ok (.dup_x1, 1)) (hv1 : zv_n1 v = true) (hu1 : zv_n1 u = true) (k : good (pc + 1) L (v :: u :: v :: S) F G) : good pc L (v :: u :: S) F G := by
  obtain ⟨p, l, e, R, s, m, args, below, meth, c, Q, OB, D, DA, sz, A, H0, Ts, cells, slots, ⟨hx, hb, hml, hD, hKS⟩, ⟨hsz, hXp, hX, -⟩, ⟨hwf, hinj, hge, hOB⟩, hg⟩ := hB
  refine (hg _ _ _ _ _).mpr fun H locs ls stk h1 h2 h3 h4 h5 => ?_
  obtain ⟨w, st, rfl, hv, w2, st2, rfl, hu, h6⟩ := h5
  exact lv_dup_x1 hx hb hd (zv_v1 hv1 hv) (zv_v1 hu1 hu) ((hg _ _ _ _ _).mp k H locs ls _ h1 h2 h3 h4 ⟨_, _, rfl, hv, _, _, rfl, hu, _, _, rfl, hv, h6⟩)
theorem zv_dup2 (hB : zv_B cl FT KXf TBL MT y mm K rm good) {v u : zNV} (hd : decode mm.2.1 pc = .ok (.dup2, 1)) (hv1 : zv_n1 v = true) (hu1 : zv_n1 u = true) (k : good (pc + 1) L (v :: u :: v :: u :: S) F G) : good pc L (v :: u :: S) F G := by
  obtain ⟨p, l, e, R, s, m, args, below, meth, c, Q, OB, D, DA, sz, A, H0, Ts, cells, slots, ⟨hx, hb, hml, hD, hKS⟩, ⟨hsz, hXp, hX, -⟩, ⟨hwf, hinj, hge, hOB⟩, hg⟩ := hB
  refine (hg _ _ _ _ _).mpr fun H locs ls stk h1 h2 h3 h4 h5 => ?_
  obtain ⟨w, st, rfl, hv, w2, st2, rfl, hu, h6⟩ := h5
  exact lv_dup2_11 hx hb hd (zv_v1 hv1 hv) (zv_v1 hu1 hu) ((hg _ _ _ _ _).mp k H locs ls _ h1 h2 h3 h4 ⟨_, _, rfl, hv, _, _, rfl, hu, _, _, rfl, hv, _, _, rfl, hu, h6⟩)
theorem zv_pop (hB : zv_B cl FT KXf TBL MT y mm K rm good) {v : zNV} (hd : decode mm.2.1 pc = .ok (.pop, 1)) (hv1 : zv_n1 v = true) (k : good (pc + 1) L S F G) : good pc L (v :: S) F G := by
  obtain ⟨p, l, e, R, s, m, args, below, meth, c, Q, OB, D, DA, sz, A, H0, Ts, cells, slots, ⟨hx, hb, hml, hD, hKS⟩, ⟨hsz, hXp, hX, -⟩, ⟨hwf, hinj, hge, hOB⟩, hg⟩ := hB
  refine (hg _ _ _ _ _).mpr fun H locs ls stk h1 h2 h3 h4 h5 => ?_
  obtain ⟨w, st, rfl, hv, h6⟩ := h5
  exact lv_pop hx hb hd (zv_v1 hv1 hv) ((hg _ _ _ _ _).mp k H locs ls _ h1 h2 h3 h4 h6)
theorem zv_goto (hB : zv_B cl FT KXf TBL MT y mm K rm good) {off : Int} {t : Nat} (hd : decode mm.2.1 pc = .ok (.goto off, 3)) (ht : z_to pc off = some t) (k : good t L S F G) : good pc L S F G := by
  obtain ⟨p, l, e, R, s, m, args, below, meth, c, Q, OB, D, DA, sz, A, H0, Ts, cells, slots, ⟨hx, hb, hml, hD, hKS⟩, ⟨hsz, hXp, hX, -⟩, ⟨hwf, hinj, hge, hOB⟩, hg⟩ := hB
  refine (hg _ _ _ _ _).mpr fun H locs ls stk h1 h2 h3 h4 h5 => ?_
  exact lv_goto hx hb hd (z_to_ok ht) ((hg _ _ _ _ _).mp k H locs ls _ h1 h2 h3 h4 h5)
theorem zv_icmp (hB : zv_B cl FT KXf TBL MT y mm K rm good) {kc : zC} {off : Int} {t : Nat} {a b : Int} (hd : decode mm.2.1 pc = .ok (.if_icmp kc off, 3)) (ht : z_to pc off = some t) (k1 : z_rel kc a b → good t L S F G) (k2 : z_rel (z_not kc) a b → good (pc + 3) L S F G) : good pc L (.inl b :: .inl a :: S) F G := by
  obtain ⟨p, l, e, R, s, m, args, below, meth, c, Q, OB, D, DA, sz, A, H0, Ts, cells, slots, ⟨hx, hb, hml, hD, hKS⟩, ⟨hsz, hXp, hX, -⟩, ⟨hwf, hinj, hge, hOB⟩, hg⟩ := hB
  refine (hg _ _ _ _ _).mpr fun H locs ls stk h1 h2 h3 h4 h5 => ?_
  obtain ⟨w, st, rfl, ⟨v, rfl, hv⟩, w2, st2, rfl, ⟨u, rfl, hu⟩, h6⟩ := h5
  exact z_icmp_row hx hb hd (z_to_ok ht) (fun h => (hg _ _ _ _ _).mp (k1 (by rw [← hu, ← hv]; exact h)) H locs ls _ h1 h2 h3 h4 h6) (fun h => (hg _ _ _ _ _).mp (k2 (by rw [← hu, ← hv]; exact h)) H locs ls _ h1 h2 h3 h4 h6)
theorem zv_icnd (hB : zv_B cl FT KXf TBL MT y mm K rm good) {kc : zC} {off : Int} {t : Nat} {a : Int} (hd : decode mm.2.1 pc = .ok (.ifCond kc off, 3)) (ht : z_to pc off = some t) (k1 : z_rel kc a 0 → good t L S F G) (k2 : z_rel (z_not kc) a 0 → good (pc + 3) L S F G) : good pc L (.inl a :: S) F G := by
  obtain ⟨p, l, e, R, s, m, args, below, meth, c, Q, OB, D, DA, sz, A, H0, Ts, cells, slots, ⟨hx, hb, hml, hD, hKS⟩, ⟨hsz, hXp, hX, -⟩, ⟨hwf, hinj, hge, hOB⟩, hg⟩ := hB
  refine (hg _ _ _ _ _).mpr fun H locs ls stk h1 h2 h3 h4 h5 => ?_
  obtain ⟨w2, st2, rfl, ⟨u, rfl, hu⟩, h6⟩ := h5
  exact z_icnd_row hx hb hd (z_to_ok ht) (fun h => (hg _ _ _ _ _).mp (k1 (by rw [← hu]; exact h)) H locs ls _ h1 h2 h3 h4 h6) (fun h => (hg _ _ _ _ _).mp (k2 (by rw [← hu]; exact h)) H locs ls _ h1 h2 h3 h4 h6)
theorem zv_ceq (hB : zv_B cl FT KXf TBL MT y mm K rm good) {off : Int} {t : Nat} {a b : Int} (hd : decode mm.2.1 pc = .ok (.if_icmp .eq off, 3)) (ht : z_to pc off = some t) (k1 : a = b → good t L S F G) (k2 : a ≠ b → good (pc + 3) L S F G) : good pc L (.inl b :: .inl a :: S) F G := zv_icmp hB hd ht k1 k2
theorem zv_zeq (hB : zv_B cl FT KXf TBL MT y mm K rm good) {off : Int} {t : Nat} {a : Int} (hd : decode mm.2.1 pc = .ok (.ifCond .eq off, 3)) (ht : z_to pc off = some t) (k1 : a = 0 → good t L S F G) (k2 : a ≠ 0 → good (pc + 3) L S F G) : good pc L (.inl a :: S) F G := zv_icnd hB hd ht k1 k2
theorem zv_cne (hB : zv_B cl FT KXf TBL MT y mm K rm good) {off : Int} {t : Nat} {a b : Int} (hd : decode mm.2.1 pc = .ok (.if_icmp .ne off, 3)) (ht : z_to pc off = some t) (k1 : a ≠ b → good t L S F G) (k2 : a = b → good (pc + 3) L S F G) : good pc L (.inl b :: .inl a :: S) F G := zv_icmp hB hd ht k1 k2
theorem zv_zne (hB : zv_B cl FT KXf TBL MT y mm K rm good) {off : Int} {t : Nat} {a : Int} (hd : decode mm.2.1 pc = .ok (.ifCond .ne off, 3)) (ht : z_to pc off = some t) (k1 : a ≠ 0 → good t L S F G) (k2 : a = 0 → good (pc + 3) L S F G) : good pc L (.inl a :: S) F G := zv_icnd hB hd ht k1 k2
theorem zv_clt (hB : zv_B cl FT KXf TBL MT y mm K rm good) {off : Int} {t : Nat} {a b : Int} (hd : decode mm.2.1 pc = .ok (.if_icmp .lt off, 3)) (ht : z_to pc off = some t) (k1 : a < b → good t L S F G) (k2 : b ≤ a → good (pc + 3) L S F G) : good pc L (.inl b :: .inl a :: S) F G := zv_icmp hB hd ht k1 k2
theorem zv_zlt (hB : zv_B cl FT KXf TBL MT y mm K rm good) {off : Int} {t : Nat} {a : Int} (hd : decode mm.2.1 pc = .ok (.ifCond .lt off, 3)) (ht : z_to pc off = some t) (k1 : a < 0 → good t L S F G) (k2 : 0 ≤ a → good (pc + 3) L S F G) : good pc L (.inl a :: S) F G := zv_icnd hB hd ht k1 k2
theorem zv_cge (hB : zv_B cl FT KXf TBL MT y mm K rm good) {off : Int} {t : Nat} {a b : Int} (hd : decode mm.2.1 pc = .ok (.if_icmp .ge off, 3)) (ht : z_to pc off = some t) (k1 : b ≤ a → good t L S F G) (k2 : a < b → good (pc + 3) L S F G) : good pc L (.inl b :: .inl a :: S) F G := zv_icmp hB hd ht k1 k2
theorem zv_zge (hB : zv_B cl FT KXf TBL MT y mm K rm good) {off : Int} {t : Nat} {a : Int} (hd : decode mm.2.1 pc = .ok (.ifCond .ge off, 3)) (ht : z_to pc off = some t) (k1 : 0 ≤ a → good t L S F G) (k2 : a < 0 → good (pc + 3) L S F G) : good pc L (.inl a :: S) F G := zv_icnd hB hd ht k1 k2
theorem zv_cgt (hB : zv_B cl FT KXf TBL MT y mm K rm good) {off : Int} {t : Nat} {a b : Int} (hd : decode mm.2.1 pc = .ok (.if_icmp .gt off, 3)) (ht : z_to pc off = some t) (k1 : b < a → good t L S F G) (k2 : a ≤ b → good (pc + 3) L S F G) : good pc L (.inl b :: .inl a :: S) F G := zv_icmp hB hd ht k1 k2
theorem zv_zgt (hB : zv_B cl FT KXf TBL MT y mm K rm good) {off : Int} {t : Nat} {a : Int} (hd : decode mm.2.1 pc = .ok (.ifCond .gt off, 3)) (ht : z_to pc off = some t) (k1 : 0 < a → good t L S F G) (k2 : a ≤ 0 → good (pc + 3) L S F G) : good pc L (.inl a :: S) F G := zv_icnd hB hd ht k1 k2
theorem zv_cle (hB : zv_B cl FT KXf TBL MT y mm K rm good) {off : Int} {t : Nat} {a b : Int} (hd : decode mm.2.1 pc = .ok (.if_icmp .le off, 3)) (ht : z_to pc off = some t) (k1 : a ≤ b → good t L S F G) (k2 : b < a → good (pc + 3) L S F G) : good pc L (.inl b :: .inl a :: S) F G := zv_icmp hB hd ht k1 k2
theorem zv_zle (hB : zv_B cl FT KXf TBL MT y mm K rm good) {off : Int} {t : Nat} {a : Int} (hd : decode mm.2.1 pc = .ok (.ifCond .le off, 3)) (ht : z_to pc off = some t) (k1 : a ≤ 0 → good t L S F G) (k2 : 0 < a → good (pc + 3) L S F G) : good pc L (.inl a :: S) F G := zv_icnd hB hd ht k1 k2
end ZVMORE
