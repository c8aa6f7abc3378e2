/-! 44.fun, 45.emb, 46.emb2, 47.more, 48a.base, 49.names7, 49b.letter, 60a.dec, 60b.dec, 60c.dec, 60d.dec -/
section
/-! Over named cells: sums that wrap, what a function asks for. -/
def zi_w (x : Int) : Int := Int.bmod x (2 ^ 32)
theorem zi_w_id {x : Int} (h1 : -2147483648 ≤ x) (h2 : x ≤ 2147483647) : zi_w x = x := z_bmod h1 h2
def zi_ev (op : Int32 → Int32 → Int32) (a b : Int) : Int := (op (Int32.ofInt a) (Int32.ofInt b)).toInt
def zi_and (a b : Int) : Int := zi_ev (fun x y => x &&& y) a b
def zi_or (a b : Int) : Int := zi_ev (fun x y => x ||| y) a b
def zi_xor (a b : Int) : Int := zi_ev (fun x y => x ^^^ y) a b
def zi_shl (a b : Int) : Int := zi_ev (fun x y => x <<< (y &&& 31)) a b
def zi_shr (a b : Int) : Int := zi_ev (fun x y => x >>> (y &&& 31)) a b
def zi_ush (a b : Int) : Int := zi_ev (fun x y => (x.toUInt32 >>> (y.toUInt32 &&& Int32.toUInt32 31)).toInt32) a b
def zi_div (a b : Int) : Int := zi_ev (fun x y => x / y) a b
def zi_rem (a b : Int) : Int := zi_ev (fun x y => x - x / y * y) a b
def zi_by (a : Int) : Int := (Int32.ofInt a).toInt8.toInt32.toInt
def zi_ch (a : Int) : Int := (Int32.ofInt a).toUInt32.toUInt16.toUInt32.toInt32.toInt
theorem zi_if {α : Type} {b : Bool} {k : Option α} {o : α} (h : (cond b k none) = some o) : b = true ∧ k = some o := by
  cases b with
  | true => exact ⟨rfl, h⟩
  | false => cases h
/-- an index that fits -/
def zi_ix (a : Int) (n : Nat) : Bool := decide (0 ≤ a) && decide (a < n)
theorem zi_ix_ok {a : Int} {n : Nat} (h : zi_ix a n = true) : 0 ≤ a ∧ a < n := by
  unfold zi_ix at h
  rw [Bool.and_eq_true] at h
  exact ⟨of_decide_eq_true h.1, of_decide_eq_true h.2⟩
def zi_ne (a : Int) : Bool := !(decide (a = 0))
theorem zi_ne_ok {a : Int} (h : zi_ne a = true) : a ≠ 0 := by
  unfold zi_ne at h
  simpa using h
/-- a boolean -/
def zi_bo (a : Int) : Bool := decide (0 ≤ a) && decide (a ≤ 1)
theorem zi_bo_ok {a : Int} (h : zi_bo a = true) : 0 ≤ a ∧ a ≤ 1 := by
  unfold zi_bo at h
  rw [Bool.and_eq_true] at h
  exact ⟨of_decide_eq_true h.1, of_decide_eq_true h.2⟩
theorem zi_bind {α β : Type} {x : Option α} {f : α → Option β} {o : β} (h : x.bind f = some o) : ∃ a, x = some a ∧ f a = some o := by
  cases x with
  | none => cases h
  | some a => exact ⟨a, rfl, h⟩
/-- a long on the stack -/
theorem zv_w_l {A : Nat → Nat} {n : Nat} {w : Value} (h : zv_w A (5000 + n) w) : w = .long (Int64.ofNat n) := by
  unfold zv_w at h
  have e : Nat.blt (5000 + n) 5000 = false := by
    cases hb : Nat.blt (5000 + n) 5000 with
    | false => rfl
    | true => have := z_blt hb; omega
  rw [e] at h
  have h : w = .long (Int64.ofNat (5000 + n - 5000)) := h
  rw [h, Nat.add_sub_cancel_left]
theorem zv_w_lm {A : Nat → Nat} {n : Nat} : zv_w A (5000 + n) (.long (Int64.ofNat n)) := by
  unfold zv_w
  have e : Nat.blt (5000 + n) 5000 = false := by
    cases hb : Nat.blt (5000 + n) 5000 with
    | false => rfl
    | true => have := z_blt hb; omega
  rw [e]
  show Value.long (Int64.ofNat n) = .long (Int64.ofNat (5000 + n - 5000))
  rw [Nat.add_sub_cancel_left]
def zi_lshl (a : Nat) (k : Int) : Nat := (Int64.ofNat a <<< ((Int32.ofInt k).toInt64 &&& 63)).toBitVec.toNat
def zi_lor (a b : Nat) : Nat := (Int64.ofNat a ||| Int64.ofNat b).toBitVec.toNat
def zi_lcmp (a b : Nat) : Int := (lg_cmp (Int64.ofNat a) (Int64.ofNat b)).toInt
theorem zi_l64 (x : Int64) : Int64.ofNat x.toBitVec.toNat = x := by
  show (⟨⟨BitVec.ofNat 64 x.toBitVec.toNat⟩⟩ : Int64) = x
  rw [BitVec.ofNat_toNat, BitVec.setWidth_eq]
  rfl
section ZVFUN
variable {cl : List vw_C} {FT : Nat → Nat → FieldType} {KXf : (Nat → Nat) → Nat → State → Heap → Prop} {TBL : List Cond} {MT : List zM} {y : zNL} {mm : zM} {K : zK} {rm : Nat × Nat} {good : Nat → List zNV → List zNV → List zNV → List (Int → Int) → Prop}
variable {pc : Nat} {L S : List zNV} {F : List zNV} {G : List (Int → Int)}
theorem zv_andw (hB : zv_B cl FT KXf TBL MT y mm K rm good) {a b : Int} (hd : decode mm.2.1 pc = .ok (.iand, 1)) (k : good (pc + 1) L (.inl (zi_and a b) :: S) F G) : good pc L (.inl b :: .inl a :: S) F G :=
  zv_bin hB hd rfl fun u v hu hv => by
    have e1 : Int32.ofInt a = u := by rw [← hu]; exact Int32.ofInt_toInt u
    have e2 : Int32.ofInt b = v := by rw [← hv]; exact Int32.ofInt_toInt v
    unfold zi_and zi_ev at k
    rw [e1, e2] at k
    exact k
theorem zv_orw (hB : zv_B cl FT KXf TBL MT y mm K rm good) {a b : Int} (hd : decode mm.2.1 pc = .ok (.ior, 1)) (k : good (pc + 1) L (.inl (zi_or a b) :: S) F G) : good pc L (.inl b :: .inl a :: S) F G :=
  zv_bin hB hd rfl fun u v hu hv => by
    have e1 : Int32.ofInt a = u := by rw [← hu]; exact Int32.ofInt_toInt u
    have e2 : Int32.ofInt b = v := by rw [← hv]; exact Int32.ofInt_toInt v
    unfold zi_or zi_ev at k
    rw [e1, e2] at k
    exact k
theorem zv_xorw (hB : zv_B cl FT KXf TBL MT y mm K rm good) {a b : Int} (hd : decode mm.2.1 pc = .ok (.ixor, 1)) (k : good (pc + 1) L (.inl (zi_xor a b) :: S) F G) : good pc L (.inl b :: .inl a :: S) F G :=
  zv_bin hB hd rfl fun u v hu hv => by
    have e1 : Int32.ofInt a = u := by rw [← hu]; exact Int32.ofInt_toInt u
    have e2 : Int32.ofInt b = v := by rw [← hv]; exact Int32.ofInt_toInt v
    unfold zi_xor zi_ev at k
    rw [e1, e2] at k
    exact k
theorem zv_shlw (hB : zv_B cl FT KXf TBL MT y mm K rm good) {a b : Int} (hd : decode mm.2.1 pc = .ok (.ishl, 1)) (k : good (pc + 1) L (.inl (zi_shl a b) :: S) F G) : good pc L (.inl b :: .inl a :: S) F G :=
  zv_bin hB hd rfl fun u v hu hv => by
    have e1 : Int32.ofInt a = u := by rw [← hu]; exact Int32.ofInt_toInt u
    have e2 : Int32.ofInt b = v := by rw [← hv]; exact Int32.ofInt_toInt v
    unfold zi_shl zi_ev at k
    rw [e1, e2] at k
    exact k
theorem zv_shrw (hB : zv_B cl FT KXf TBL MT y mm K rm good) {a b : Int} (hd : decode mm.2.1 pc = .ok (.ishr, 1)) (k : good (pc + 1) L (.inl (zi_shr a b) :: S) F G) : good pc L (.inl b :: .inl a :: S) F G :=
  zv_bin hB hd rfl fun u v hu hv => by
    have e1 : Int32.ofInt a = u := by rw [← hu]; exact Int32.ofInt_toInt u
    have e2 : Int32.ofInt b = v := by rw [← hv]; exact Int32.ofInt_toInt v
    unfold zi_shr zi_ev at k
    rw [e1, e2] at k
    exact k
theorem zv_ushw (hB : zv_B cl FT KXf TBL MT y mm K rm good) {a b : Int} (hd : decode mm.2.1 pc = .ok (.iushr, 1)) (k : good (pc + 1) L (.inl (zi_ush a b) :: S) F G) : good pc L (.inl b :: .inl a :: S) F G := by
  obtain ⟨p, l, e, R, s, m, args, below, meth, c, Q, OB, D, DA, sz, A, H0, Ts, cells, slots, ⟨hx, hb, hml, hD, hKS⟩, ⟨hsz, hXp, hX, -⟩, ⟨hwf, hinj, hge, hOB⟩, hg⟩ := hB
  refine (hg _ _ _ _ _).mpr fun H locs ls stk h1 h2 h3 h4 h5 => ?_
  obtain ⟨w, st, rfl, ⟨v, rfl, hv⟩, w2, st2, rfl, ⟨u, rfl, hu⟩, h6⟩ := h5
  have e1 : Int32.ofInt a = u := by rw [← hu]; exact Int32.ofInt_toInt u
  have e2 : Int32.ofInt b = v := by rw [← hv]; exact Int32.ofInt_toInt v
  unfold zi_ush zi_ev at k
  rw [e1, e2] at k
  exact lv_iushr hx hb hd rfl ((hg _ _ _ _ _).mp k H locs ls _ h1 h2 h3 h4 ⟨_, _, rfl, ⟨_, rfl, rfl⟩, h6⟩)
theorem zv_divw (hB : zv_B cl FT KXf TBL MT y mm K rm good) {a b : Int} (hd : decode mm.2.1 pc = .ok (.idiv, 1)) (hb0 : b ≠ 0) (k : good (pc + 1) L (.inl (zi_div a b) :: S) F G) : good pc L (.inl b :: .inl a :: S) F G :=
  zv_bin0 hB hd rfl hb0 fun u v hu hv => by
    have e1 : Int32.ofInt a = u := by rw [← hu]; exact Int32.ofInt_toInt u
    have e2 : Int32.ofInt b = v := by rw [← hv]; exact Int32.ofInt_toInt v
    unfold zi_div zi_ev at k
    rw [e1, e2] at k
    exact k
theorem zv_remw (hB : zv_B cl FT KXf TBL MT y mm K rm good) {a b : Int} (hd : decode mm.2.1 pc = .ok (.irem, 1)) (hb0 : b ≠ 0) (k : good (pc + 1) L (.inl (zi_rem a b) :: S) F G) : good pc L (.inl b :: .inl a :: S) F G :=
  zv_bin0 hB hd rfl hb0 fun u v hu hv => by
    have e1 : Int32.ofInt a = u := by rw [← hu]; exact Int32.ofInt_toInt u
    have e2 : Int32.ofInt b = v := by rw [← hv]; exact Int32.ofInt_toInt v
    unfold zi_rem zi_ev at k
    rw [e1, e2] at k
    exact k
theorem zv_addw (hB : zv_B cl FT KXf TBL MT y mm K rm good) {a b : Int} (hd : decode mm.2.1 pc = .ok (.iadd, 1)) (k : good (pc + 1) L (.inl (zi_w (a + b)) :: S) F G) : good pc L (.inl b :: .inl a :: S) F G :=
  zv_bin hB hd rfl fun u v hu hv => by
    have e : (u + v).toInt = zi_w (a + b) := by rw [Int32.toInt_add, hu, hv]; rfl
    show good _ _ (.inl (u + v).toInt :: _) _ _
    rw [e]; exact k
theorem zv_subw (hB : zv_B cl FT KXf TBL MT y mm K rm good) {a b : Int} (hd : decode mm.2.1 pc = .ok (.isub, 1)) (k : good (pc + 1) L (.inl (zi_w (a - b)) :: S) F G) : good pc L (.inl b :: .inl a :: S) F G :=
  zv_bin hB hd rfl fun u v hu hv => by
    have e : (u - v).toInt = zi_w (a - b) := by rw [Int32.toInt_sub, hu, hv]; rfl
    show good _ _ (.inl (u - v).toInt :: _) _ _
    rw [e]; exact k
theorem zv_mulw (hB : zv_B cl FT KXf TBL MT y mm K rm good) {a b : Int} (hd : decode mm.2.1 pc = .ok (.imul, 1)) (k : good (pc + 1) L (.inl (zi_w (a * b)) :: S) F G) : good pc L (.inl b :: .inl a :: S) F G :=
  zv_bin hB hd rfl fun u v hu hv => by
    have e : (u * v).toInt = zi_w (a * b) := by rw [Int32.toInt_mul, hu, hv]; rfl
    show good _ _ (.inl (u * v).toInt :: _) _ _
    rw [e]; exact k
theorem zv_negw (hB : zv_B cl FT KXf TBL MT y mm K rm good) {a : Int} (hd : decode mm.2.1 pc = .ok (.ineg, 1)) (k : good (pc + 1) L (.inl (zi_w (-a)) :: S) F G) : good pc L (.inl a :: S) F G :=
  zv_neg hB hd fun u hu => by
    have e : (-u).toInt = zi_w (-a) := by rw [Int32.toInt_neg, hu]; rfl
    rw [e]; exact k
theorem zv_i2b (hB : zv_B cl FT KXf TBL MT y mm K rm good) {a : Int} (hd : decode mm.2.1 pc = .ok (.i2b, 1)) (k : good (pc + 1) L (.inl (zi_by a) :: S) F G) : good pc L (.inl a :: S) F G := by
  obtain ⟨p, l, e, R, s, m, args, below, meth, c, Q, OB, D, DA, sz, A, H0, Ts, cells, slots, ⟨hx, hb, hml, hD, hKS⟩, ⟨hsz, hXp, hX, -⟩, ⟨hwf, hinj, hge, hOB⟩, hg⟩ := hB
  refine (hg _ _ _ _ _).mpr fun H locs ls stk h1 h2 h3 h4 h5 => ?_
  obtain ⟨w, st, rfl, ⟨x, rfl, hx2⟩, h6⟩ := h5
  have e1 : Int32.ofInt a = x := by rw [← hx2]; exact Int32.ofInt_toInt x
  unfold zi_by at k
  rw [e1] at k
  exact lv_i2b hx hb hd rfl ((hg _ _ _ _ _).mp k H locs ls _ h1 h2 h3 h4 ⟨_, _, rfl, ⟨_, rfl, rfl⟩, h6⟩)
theorem zv_i2c (hB : zv_B cl FT KXf TBL MT y mm K rm good) {a : Int} (hd : decode mm.2.1 pc = .ok (.i2c, 1)) (k : good (pc + 1) L (.inl (zi_ch a) :: S) F G) : good pc L (.inl a :: S) F G := by
  obtain ⟨p, l, e, R, s, m, args, below, meth, c, Q, OB, D, DA, sz, A, H0, Ts, cells, slots, ⟨hx, hb, hml, hD, hKS⟩, ⟨hsz, hXp, hX, -⟩, ⟨hwf, hinj, hge, hOB⟩, hg⟩ := hB
  refine (hg _ _ _ _ _).mpr fun H locs ls stk h1 h2 h3 h4 h5 => ?_
  obtain ⟨w, st, rfl, ⟨x, rfl, hx2⟩, h6⟩ := h5
  have e1 : Int32.ofInt a = x := by rw [← hx2]; exact Int32.ofInt_toInt x
  unfold zi_ch at k
  rw [e1] at k
  exact lv_i2c hx hb hd rfl ((hg _ _ _ _ _).mp k H locs ls _ h1 h2 h3 h4 ⟨_, _, rfl, ⟨_, rfl, rfl⟩, h6⟩)
theorem zv_iincw (hB : zv_B cl FT KXf TBL MT y mm K rm good) {i : Nat} {v n : Int} (hd : decode mm.2.1 pc = .ok (.iinc i n, 3)) (hn : (Nat.blt i mm.2.2.1 && z_noov n n) = true) (hl : zv_l L i = some (.inl v)) (k : good (pc + 3) (zv_s L i (.inl (zi_w (v + n)))) S F G) : good pc L S F G := by
  obtain ⟨p, l, e, R, s, m, args, below, meth, c, Q, OB, D, DA, sz, A, H0, Ts, cells, slots, ⟨hx, hb, hml, hD, hKS⟩, -, -, hg⟩ := hB
  rw [Bool.and_eq_true] at hn
  obtain ⟨q1, q2⟩ := z_noov_ok hn.2
  refine (hg _ _ _ _ _).mpr fun H locs ls stk g1 g2 g3 h4 h5 => ?_
  obtain ⟨lv, a1, a2, a3⟩ := h4
  obtain ⟨w, ⟨x, rfl, hv⟩, a4⟩ := a3 i _ hl trivial
  obtain ⟨j, hj⟩ := List.getElem?_of_mem a4
  have hx2 : (x + Int32.ofInt n).toInt = zi_w (v + n) := by
    rw [Int32.toInt_add, Int32.toInt_ofInt_of_le (by omega) (by omega), hv]; rfl
  exact lv_iinc hx hb hd a1 hj rfl (z_blt hn.1) rfl fun ls' h => (hg _ _ _ _ _).mp k H locs ls' stk g1 g2 g3 (zv_lv_set (v := .inl (zi_w (v + n))) (w := .inl v) rfl a2 a3 ⟨_, rfl, hx2⟩ hl h) h5
def zv_sta (ins : Instr) (len : Nat) : Option Nat := match ins with
  | .astore i => cond (Nat.beq len 2) (some i) none
  | .astore_n i => cond (Nat.beq len 1) (some i.val) none
  | _ => none
theorem zv_ast (hB : zv_B cl FT KXf TBL MT y mm K rm good) {ins : Instr} {len i v : Nat} {u : zNV} (hd : decode mm.2.1 pc = .ok (ins, len)) (hv5 : Nat.blt v 5000 = true) (hc : zv_sta ins len = some i) (hn : Nat.blt i mm.2.2.1 = true) (hl : zv_l L i = some u) (k : good (pc + len) (zv_s L i (.inr v)) S F G) : good pc L (.inr v :: S) F G := by
  obtain ⟨p, l, e, R, s, m, args, below, meth, c, Q, OB, D, DA, sz, A, H0, Ts, cells, slots, ⟨hx, hb, hml, hD, hKS⟩, ⟨hsz, hXp, hX, -⟩, ⟨hwf, hinj, hge, hOB⟩, hg⟩ := hB
  refine (hg _ _ _ _ _).mpr fun H locs ls stk h1 h2 h3 h4 h5 => ?_
  obtain ⟨w, st, rfl, hw, h6⟩ := h5
  have hw : w = .ref (A v) := zv_w_r hw (z_blt hv5)
  subst hw
  obtain ⟨lv, a1, a2, a3⟩ := h4
  have kk := fun (ls' : Array Slot) (h : lv_has ls' mm.2.2.1 ((i, Value.ref (A v)) :: lv.filter (fun q => !(q.1 == i) && !(q.1 + 1 == i && q.2.category == 2)))) => (hg _ _ _ _ _).mp k H locs ls' _ h1 h2 h3 (zv_lv_set (v := .inr v) (w := u) hv5 a2 a3 (zv_w_mk (z_blt hv5)) hl h) h6
  unfold zv_sta at hc
  split at hc
  · obtain ⟨c1, rfl⟩ := z_cond hc
    rw [z_beq c1] at hd kk
    exact lv_astore hx hb hd a1 (z_blt hn) rfl kk
  · obtain ⟨c1, rfl⟩ := z_cond hc
    rw [z_beq c1] at hd kk
    exact lv_astore_n hx hb hd rfl a1 (z_blt hn) rfl kk
  · cases hc
theorem zv_alen (hB : zv_B cl FT KXf TBL MT y mm K rm good) {c k0 n j : Nat} {v : Int} (hd : decode mm.2.1 pc = .ok (.arraylength, 1)) (ha : zv_ar y c = some (k0, n, j)) (hk : Nat.ble k0 2 = true) (hn : Nat.blt n 2147483648 = true) (hv : (n : Int) = v) (k : good (pc + 1) L (.inl v :: S) F G) : good pc L (.inr c :: S) F G := by
  obtain ⟨p, l, e, R, s, m, args, below, meth, c, Q, OB, D, DA, sz, A, H0, Ts, cells, slots, ⟨hx, hb, hml, hD, hKS⟩, ⟨hsz, hXp, hX, -⟩, ⟨hwf, hinj, hge, hOB⟩, hg⟩ := hB
  refine (hg _ _ _ _ _).mpr fun H locs ls stk h1 h2 h3 h4 h5 => ?_
  obtain ⟨w, st, rfl, hw, h6⟩ := h5
  have hw : w = .ref (A _) := zv_w_r hw (zv_ar_lt hwf ha)
  subst hw
  obtain ⟨f, g2, x1, x2, x3⟩ := h1.2.2.2 _ (zv_ar_ok ha)
  have hnn : n < 2147483648 := z_blt hn
  subst hv
  exact W.alen (n := Int32.ofNat n) hx hb x1 (z_isarr hD (k := k0) (Nat.lt_succ_of_le (Nat.le_of_ble_eq_true hk)) n f) (by rw [arrV_size]) rfl rfl hd ((hg _ _ _ _ _).mp k H locs ls _ h1 h2 h3 h4 ⟨_, _, rfl, ⟨_, rfl, Int32.toInt_ofNat_of_lt (by omega)⟩, h6⟩)
theorem zv_bast (hB : zv_B cl FT KXf TBL MT y mm K rm good) {c n j : Nat} {a v : Int} {g : Int → Int} (hd : decode mm.2.1 pc = .ok (.bastore, 1)) (ha : zv_ar y c = some (1, n, j)) (hl : zv_l G j = some g) (ha1 : 0 ≤ a) (ha2 : a < n) (k : good (pc + 1) L S F (zv_s G j (zv_up g a (zi_by v)))) : good pc L (.inl v :: .inl a :: .inr c :: S) F G := by
  obtain ⟨p, l, e, R, s, m, args, below, meth, cc, Q, OB, D, DA, sz, A, H0, Ts, cells, slots, ⟨hx, hb, hml, hD, hKS⟩, ⟨hsz, hXp, hX, -⟩, ⟨hwf, hinj, hge, hOB⟩, hg⟩ := hB
  refine (hg _ _ _ _ _).mpr fun H locs ls stk h1 h2 h3 h4 h5 => ?_
  obtain ⟨w0, st0, rfl, ⟨u, rfl, rfl⟩, w, st, rfl, ⟨x, rfl, rfl⟩, w2, st2, rfl, hw, h6⟩ := h5
  have hw : w2 = .ref (A _) := zv_w_r hw (zv_ar_lt hwf ha)
  subst hw
  have hm := zv_ar_ok ha
  obtain ⟨f, g2, x1, x2, x3⟩ := h1.2.2.2 _ hm
  rw [hl] at x2
  cases x2
  obtain ⟨b1, b2⟩ := zv_ix ha1 ha2
  obtain ⟨a1, a2, a3, a4⟩ := zv_wfA hwf hm
  have a1 : c < n_N y := a1
  refine W.bast hx hb x1 (z_isarr hD (k := 1) (by omega) n f) (fun q => by cases q) (by rw [arrV_size]; exact b1) rfl rfl hd fun H1 e1 e2 e3 => ?_
  have e1' : H1[A c]? = some (arrV (DA 1) n (updV f x.toNatClampNeg (.int u.toInt8.toInt32))) := by rw [e1, arrV_store]; rfl
  have hne : ∀ b, b < n_N y → b ≠ c → A b ≠ A c := fun b hb1 hb2 hb3 => hb2 (hinj _ _ hb1 a1 hb3)
  refine (hg _ _ _ _ _).mp k H1 _ ls st2 ⟨fun q hq => ?_, fun q hq => ?_, fun q hq => ?_, fun q hq => ?_⟩ (zv_frm_tr h2 ⟨e2, fun b hb1 => e3 b (fun e => hb1 c a1 e.symm), fun q hq r' k2 w hr hk2 hk3 hk4 => ?_⟩) (zv_S_set (A := A) h3 (hge _ a1) e2 e3) h4 h6
  · obtain ⟨w1, w2, w3⟩ := zv_wfO hwf hq
    obtain ⟨r', V', y1, y2⟩ := h1.1 q hq
    exact ⟨r', V', y1, y2.kept (e3 _ (hne _ w1 (w2 _ hm)))⟩
  · obtain ⟨r', x', f', y1, y2, y3, y4⟩ := h1.2.1 q hq
    exact ⟨r', x', f', y1, y2, z_sl_kept y3 (e3 _ (hne _ (zv_wfIn hwf hq).1 (fun e => a3 _ hq e.symm))), y4⟩
  · obtain ⟨r', y1, y2, y3⟩ := h1.2.2.1 q hq
    exact ⟨r', y1, y2, z_sl_kept y3 (e3 _ (hne _ (zv_wfR hwf hq).1 (fun e => a4 _ hq e.symm)))⟩
  · obtain ⟨f2, g2, y1, y2, y3⟩ := h1.2.2.2 q hq
    obtain ⟨w1, w2, w3, w4⟩ := zv_wfA hwf hq
    by_cases e : q.1 = c
    · obtain ⟨v1, v2⟩ := a2 q hq
      obtain ⟨v3, v4⟩ := v2 e.symm
      have v5 : j = q.2.2.2 := v1.mpr e.symm
      have v3 : 1 = q.2.1 := v3
      have v4 : n = q.2.2.1 := v4
      refine ⟨_, _, by rw [e, ← v3, ← v4]; exact e1', by rw [← v5]; exact zv_ls_eq hl, fun i hi => ?_⟩
      rw [← v4] at hi
      rw [← v3]
      obtain ⟨z, z1, z2⟩ := x3 i hi
      by_cases ei : i = x.toInt.toNat
      · refine ⟨u.toInt8.toInt32, ?_, ?_⟩
        · rw [z_clamp, ei]; simp [updV]
        · rw [ei, Int.toNat_of_nonneg ha1, zv_up_s]; unfold zi_by; rw [Int32.ofInt_toInt]
      · refine ⟨z, ?_, ?_⟩
        · have hne2 : ¬ i = x.toNatClampNeg := ei
          simp [updV, hne2, z1]
        · rw [zv_up_n (by omega)]; exact z2
    · refine ⟨f2, g2, by rw [e3 _ (hne _ w1 e)]; exact y1, ?_, y3⟩
      rw [zv_ls_ne (fun h7 => e ((w2 _ hm).1.mp h7.symm))]
      exact y2
  · exact z_sl_kept hk4 (e3 _ (hne _ (zv_wfO hwf hq).1 ((zv_wfO hwf hq).2.1 _ hm)))
theorem zv_lcon (hB : zv_B cl FT KXf TBL MT y mm K rm good) {n : Fin 2} (hd : decode mm.2.1 pc = .ok (.lconst n, 1)) (k : good (pc + 1) L (.inr (5000 + n.val) :: S) F G) : good pc L S F G := by
  obtain ⟨p, l, e, R, s, m, args, below, meth, cc, Q, OB, D, DA, sz, A, H0, Ts, cells, slots, ⟨hx, hb, hml, hD, hKS⟩, ⟨hsz, hXp, hX, -⟩, ⟨hwf, hinj, hge, hOB⟩, hg⟩ := hB
  refine (hg _ _ _ _ _).mpr fun H locs ls stk h1 h2 h3 h4 h5 => ?_
  exact lv_lconst hx hb hd rfl ((hg _ _ _ _ _).mp k H locs ls _ h1 h2 h3 h4 ⟨_, _, rfl, zv_w_lm, h5⟩)
theorem zv_lshlw (hB : zv_B cl FT KXf TBL MT y mm K rm good) {a : Nat} {b : Int} (hd : decode mm.2.1 pc = .ok (.lshl, 1)) (k : good (pc + 1) L (.inr (5000 + zi_lshl a b) :: S) F G) : good pc L (.inl b :: .inr (5000 + a) :: S) F G := by
  obtain ⟨p, l, e, R, s, m, args, below, meth, cc, Q, OB, D, DA, sz, A, H0, Ts, cells, slots, ⟨hx, hb, hml, hD, hKS⟩, ⟨hsz, hXp, hX, -⟩, ⟨hwf, hinj, hge, hOB⟩, hg⟩ := hB
  refine (hg _ _ _ _ _).mpr fun H locs ls stk h1 h2 h3 h4 h5 => ?_
  obtain ⟨w, st, rfl, ⟨v, rfl, hv⟩, w2, st2, rfl, hu, h6⟩ := h5
  have hu : w2 = .long (Int64.ofNat a) := zv_w_l hu
  subst hu
  have e2 : Int32.ofInt b = v := by rw [← hv]; exact Int32.ofInt_toInt v
  have hz := zv_w_lm (A := A) (n := zi_lshl a b)
  rw [show Int64.ofNat (zi_lshl a b) = Int64.ofNat a <<< (v.toInt64 &&& 63) by unfold zi_lshl; rw [zi_l64, e2]] at hz
  exact lv_lshl hx hb hd rfl ((hg _ _ _ _ _).mp k H locs ls _ h1 h2 h3 h4 ⟨_, _, rfl, hz, h6⟩)
theorem zv_lorw (hB : zv_B cl FT KXf TBL MT y mm K rm good) {a b : Nat} (hd : decode mm.2.1 pc = .ok (.lor, 1)) (k : good (pc + 1) L (.inr (5000 + zi_lor a b) :: S) F G) : good pc L (.inr (5000 + b) :: .inr (5000 + a) :: S) F G := by
  obtain ⟨p, l, e, R, s, m, args, below, meth, cc, Q, OB, D, DA, sz, A, H0, Ts, cells, slots, ⟨hx, hb, hml, hD, hKS⟩, ⟨hsz, hXp, hX, -⟩, ⟨hwf, hinj, hge, hOB⟩, hg⟩ := hB
  refine (hg _ _ _ _ _).mpr fun H locs ls stk h1 h2 h3 h4 h5 => ?_
  obtain ⟨w, st, rfl, hv, w2, st2, rfl, hu, h6⟩ := h5
  have hu : w2 = .long (Int64.ofNat a) := zv_w_l hu
  have hv : w = .long (Int64.ofNat b) := zv_w_l hv
  subst hu; subst hv
  have hz := zv_w_lm (A := A) (n := zi_lor a b)
  rw [show Int64.ofNat (zi_lor a b) = Int64.ofNat a ||| Int64.ofNat b by unfold zi_lor; rw [zi_l64]] at hz
  exact lv_lor hx hb hd ((hg _ _ _ _ _).mp k H locs ls _ h1 h2 h3 h4 ⟨_, _, rfl, hz, h6⟩)
theorem zv_lcmpw (hB : zv_B cl FT KXf TBL MT y mm K rm good) {a b : Nat} (hd : decode mm.2.1 pc = .ok (.lcmp, 1)) (k : good (pc + 1) L (.inl (zi_lcmp a b) :: S) F G) : good pc L (.inr (5000 + b) :: .inr (5000 + a) :: S) F G := by
  obtain ⟨p, l, e, R, s, m, args, below, meth, cc, Q, OB, D, DA, sz, A, H0, Ts, cells, slots, ⟨hx, hb, hml, hD, hKS⟩, ⟨hsz, hXp, hX, -⟩, ⟨hwf, hinj, hge, hOB⟩, hg⟩ := hB
  refine (hg _ _ _ _ _).mpr fun H locs ls stk h1 h2 h3 h4 h5 => ?_
  obtain ⟨w, st, rfl, hv, w2, st2, rfl, hu, h6⟩ := h5
  have hu : w2 = .long (Int64.ofNat a) := zv_w_l hu
  have hv : w = .long (Int64.ofNat b) := zv_w_l hv
  subst hu; subst hv
  exact W.lcmp hx hb hd ((hg _ _ _ _ _).mp k H locs ls _ h1 h2 h3 h4 ⟨_, _, rfl, ⟨_, rfl, rfl⟩, h6⟩)
theorem zv_lald (hB : zv_B cl FT KXf TBL MT y mm K rm good) {c n j : Nat} {a : Int} {g : Int → Int} (hd : decode mm.2.1 pc = .ok (.laload, 1)) (ha : zv_ar y c = some (2, n, j)) (hl : zv_l G j = some g) (ha1 : 0 ≤ a) (ha2 : a < n) (k : good (pc + 1) L (.inr (5000 + (g a).toNat) :: S) F G) : good pc L (.inl a :: .inr c :: S) F G := by
  obtain ⟨p, l, e, R, s, m, args, below, meth, cc, Q, OB, D, DA, sz, A, H0, Ts, cells, slots, ⟨hx, hb, hml, hD, hKS⟩, ⟨hsz, hXp, hX, -⟩, ⟨hwf, hinj, hge, hOB⟩, hg⟩ := hB
  refine (hg _ _ _ _ _).mpr fun H locs ls stk h1 h2 h3 h4 h5 => ?_
  obtain ⟨w, st, rfl, ⟨x, rfl, rfl⟩, w2, st2, rfl, hw, h6⟩ := h5
  have hw : w2 = .ref (A _) := zv_w_r hw (zv_ar_lt hwf ha)
  subst hw
  obtain ⟨f, g2, x1, x2, x3⟩ := h1.2.2.2 _ (zv_ar_ok ha)
  rw [hl] at x2
  cases x2
  obtain ⟨b1, b2⟩ := zv_ix ha1 ha2
  have v1 : f x.toInt.toNat = .long (Int64.ofNat (g ((x.toInt.toNat : Nat) : Int)).toNat) := x3 x.toInt.toNat b2
  rw [Int.toNat_of_nonneg ha1] at v1
  refine W.lald hx hb x1 (z_isarr hD (k := 2) (by omega) n f) (fun q => by cases q) (by rw [arrV_size]; exact b1) (v := .long (Int64.ofNat (g x.toInt).toNat)) (by rw [z_clamp, arrV_read _ _ b2, v1]) rfl rfl hd ?_
  exact (hg _ _ _ _ _).mp k H locs ls _ h1 h2 h3 h4 ⟨_, _, rfl, zv_w_lm, h6⟩
theorem zv_last (hB : zv_B cl FT KXf TBL MT y mm K rm good) {c n j v : Nat} {a : Int} {g : Int → Int} (hd : decode mm.2.1 pc = .ok (.lastore, 1)) (ha : zv_ar y c = some (2, n, j)) (hl : zv_l G j = some g) (ha1 : 0 ≤ a) (ha2 : a < n) (k : good (pc + 1) L S F (zv_s G j (zv_up g a (v : Int)))) : good pc L (.inr (5000 + v) :: .inl a :: .inr c :: S) F G := by
  obtain ⟨p, l, e, R, s, m, args, below, meth, cc, Q, OB, D, DA, sz, A, H0, Ts, cells, slots, ⟨hx, hb, hml, hD, hKS⟩, ⟨hsz, hXp, hX, -⟩, ⟨hwf, hinj, hge, hOB⟩, hg⟩ := hB
  refine (hg _ _ _ _ _).mpr fun H locs ls stk h1 h2 h3 h4 h5 => ?_
  obtain ⟨w0, st0, rfl, hw0, w, st, rfl, ⟨x, rfl, rfl⟩, w2, st2, rfl, hw, h6⟩ := h5
  have hw : w2 = .ref (A _) := zv_w_r hw (zv_ar_lt hwf ha)
  subst hw
  have hw0 : w0 = .long (Int64.ofNat v) := zv_w_l hw0
  subst hw0
  have hm := zv_ar_ok ha
  obtain ⟨f, g2, x1, x2, x3⟩ := h1.2.2.2 _ hm
  rw [hl] at x2
  cases x2
  obtain ⟨b1, b2⟩ := zv_ix ha1 ha2
  obtain ⟨a1, a2, a3, a4⟩ := zv_wfA hwf hm
  have a1 : c < n_N y := a1
  refine W.last hx hb x1 (z_isarr hD (k := 2) (by omega) n f) (fun q => by cases q) (by rw [arrV_size]; exact b1) rfl rfl hd fun H1 e1 e2 e3 => ?_
  have e1' : H1[A c]? = some (arrV (DA 2) n (updV f x.toNatClampNeg (.long (Int64.ofNat v)))) := by rw [e1, arrV_store]
  have hne : ∀ b, b < n_N y → b ≠ c → A b ≠ A c := fun b hb1 hb2 hb3 => hb2 (hinj _ _ hb1 a1 hb3)
  refine (hg _ _ _ _ _).mp k H1 _ ls st2 ⟨fun q hq => ?_, fun q hq => ?_, fun q hq => ?_, fun q hq => ?_⟩ (zv_frm_tr h2 ⟨e2, fun b hb1 => e3 b (fun e => hb1 c a1 e.symm), fun q hq r' k2 w hr hk2 hk3 hk4 => ?_⟩) (zv_S_set (A := A) h3 (hge _ a1) e2 e3) h4 h6
  · obtain ⟨w1, w2, w3⟩ := zv_wfO hwf hq
    obtain ⟨r', V', y1, y2⟩ := h1.1 q hq
    exact ⟨r', V', y1, y2.kept (e3 _ (hne _ w1 (w2 _ hm)))⟩
  · obtain ⟨r', x', f', y1, y2, y3, y4⟩ := h1.2.1 q hq
    exact ⟨r', x', f', y1, y2, z_sl_kept y3 (e3 _ (hne _ (zv_wfIn hwf hq).1 (fun e => a3 _ hq e.symm))), y4⟩
  · obtain ⟨r', y1, y2, y3⟩ := h1.2.2.1 q hq
    exact ⟨r', y1, y2, z_sl_kept y3 (e3 _ (hne _ (zv_wfR hwf hq).1 (fun e => a4 _ hq e.symm)))⟩
  · obtain ⟨f2, g2, y1, y2, y3⟩ := h1.2.2.2 q hq
    obtain ⟨w1, w2, w3, w4⟩ := zv_wfA hwf hq
    by_cases e : q.1 = c
    · obtain ⟨v1, v2⟩ := a2 q hq
      obtain ⟨v3, v4⟩ := v2 e.symm
      have v5 : j = q.2.2.2 := v1.mpr e.symm
      have v3 : 2 = q.2.1 := v3
      have v4 : n = q.2.2.1 := v4
      refine ⟨_, _, by rw [e, ← v3, ← v4]; exact e1', by rw [← v5]; exact zv_ls_eq hl, fun i hi => ?_⟩
      rw [← v4] at hi
      rw [← v3]
      have z1 : f i = .long (Int64.ofNat (g (i : Int)).toNat) := x3 i hi
      show updV f x.toNatClampNeg (.long (Int64.ofNat v)) i = .long (Int64.ofNat (zv_up g x.toInt (v : Int) (i : Int)).toNat)
      by_cases ei : i = x.toInt.toNat
      · rw [z_clamp, ei, Int.toNat_of_nonneg ha1, zv_up_s, Int.toNat_natCast]
        simp [updV]
      · rw [zv_up_n (by omega), ← z1]
        have hne2 : ¬ i = x.toNatClampNeg := ei
        simp [updV, hne2]
    · refine ⟨f2, g2, by rw [e3 _ (hne _ w1 e)]; exact y1, ?_, y3⟩
      rw [zv_ls_ne (fun h7 => e ((w2 _ hm).1.mp h7.symm))]
      exact y2
  · exact z_sl_kept hk4 (e3 _ (hne _ (zv_wfO hwf hq).1 ((zv_wfO hwf hq).2.1 _ hm)))
end ZVFUN
end
section
/-! A contract over some names is used over more of them. -/
def zv_rc (ρ : List Nat) (c : Nat) : Nat := match zv_l ρ c with
  | some d => d
  | none => c
def zv_rn (ρ : List Nat) (v : zNV) : zNV := match v with
  | .inl x => .inl x
  | .inr c => .inr (zv_rc ρ c)
/-- fields: place by place the same, but those that nothing is known of -/
def zv_mF (ρ : List Nat) (F : List zNV) : List Nat → List zNV → Prop
  | [], [] => True
  | j :: φ, f :: F1 => (∃ g, zv_l F j = some g ∧ (zv_is f → g = zv_rn ρ f)) ∧ zv_mF ρ F φ F1
  | _, _ => False
def zv_mG (G : List (Int → Int)) : List Nat → List (Int → Int) → Prop
  | [], [] => True
  | j :: ψ, g :: G1 => zv_l G j = some g ∧ zv_mG G ψ G1
  | _, _ => False
def zv_pF (ρ : List Nat) : List Nat → List zNV → List zNV → List zNV
  | j :: φ, F, f :: F1 => zv_pF ρ φ (zv_s F j (zv_rn ρ f)) F1
  | _, F, _ => F
def zv_pG : List Nat → List (Int → Int) → List (Int → Int) → List (Int → Int)
  | j :: ψ, G, g :: G1 => zv_pG ψ (zv_s G j g) G1
  | _, G, _ => G
def zv_nd : List Nat → Bool
  | [] => true
  | t :: L => !(L.any (fun u => Nat.beq u t)) && zv_nd L
def zv_e4 (a b : Nat × Nat × Nat × Nat) : Bool := Nat.beq a.1 b.1 && Nat.beq a.2.1 b.2.1 && (Nat.beq a.2.2.1 b.2.2.1 && Nat.beq a.2.2.2 b.2.2.2)
def zv_ek (y1 y2 : zNL) (ρ φ ψ : List Nat) : Bool :=
  (Nat.beq ρ.length (n_N y1) && Nat.ble ρ.length 900 && zv_nd ρ && (zv_nd φ && zv_nd ψ) && ρ.all (fun d => Nat.blt d (n_N y2))) &&
  ((n_O y1).all (fun q => (n_O y2).any (fun u => Nat.beq u.1 (zv_rc ρ q.1) && Nat.beq u.2 q.2)) &&
   (n_I y1).all (fun q => Nat.blt q.2.2.2 φ.length && (n_I y2).any (fun u => zv_e4 u (zv_rc ρ q.1, q.2.1, q.2.2.1, zv_rc φ q.2.2.2))) &&
   (n_R y1).all (fun q => (n_R y2).any (fun u => zv_e4 u (zv_rc ρ q.1, q.2.1, q.2.2.1, zv_rc ρ q.2.2.2))) &&
   (n_A y1).all (fun q => Nat.blt q.2.2.2 ψ.length && (n_A y2).any (fun u => zv_e4 u (zv_rc ρ q.1, q.2.1, q.2.2.1, zv_rc ψ q.2.2.2)))) &&
  ((List.range ρ.length).all (fun c => (n_O y1).any (fun q => Nat.beq q.1 c) || (n_A y1).any (fun q => Nat.beq q.1 c)) &&
   (List.range φ.length).all (fun j => (n_I y1).any (fun q => Nat.beq q.2.2.2 j)) && (List.range ψ.length).all (fun j => (n_A y1).any (fun q => Nat.beq q.2.2.2 j)))
theorem zv_nd_ok : ∀ {L : List Nat} {i j t : Nat}, zv_nd L = true → zv_l L i = some t → zv_l L j = some t → i = j
  | [], i, j, t, _, h, _ => by cases h
  | x :: L, i, j, t, h, h1, h2 => by
    unfold zv_nd at h
    rw [Bool.and_eq_true] at h
    have hx : ∀ (k : Nat), zv_l L k = some x → False := by
      intro k hk
      have h3 : L.any (fun u => Nat.beq u x) = false := by simpa using h.1
      rw [zv_l_get] at hk
      exact List.any_eq_false.mp h3 x (List.mem_of_getElem? hk) (Nat.beq_refl _)
    match i, j, h1, h2 with
    | 0, 0, _, _ => rfl
    | 0, j + 1, h1, h2 =>
      have e : x = t := Option.some.inj h1
      subst e
      exact absurd h2 (hx j)
    | i + 1, 0, h1, h2 =>
      have e : x = t := Option.some.inj h2
      subst e
      exact absurd h1 (hx i)
    | i + 1, j + 1, h1, h2 => rw [zv_nd_ok (L := L) (i := i) (j := j) h.2 h1 h2]
theorem zv_l_lt {α : Type} {L : List α} {i : Nat} (h : i < L.length) : ∃ v, zv_l L i = some v := by
  rw [zv_l_get]
  exact ⟨_, List.getElem?_eq_getElem h⟩
theorem zv_l_len {α : Type} {L : List α} {i : Nat} {v : α} (h : zv_l L i = some v) : i < L.length := by
  rw [zv_l_get] at h
  exact (List.getElem?_eq_some_iff.mp h).1
theorem zv_rc_of {ρ : List Nat} {c d : Nat} (h : zv_l ρ c = some d) : zv_rc ρ c = d := by unfold zv_rc; rw [h]
theorem zv_e4_ok {a b : Nat × Nat × Nat × Nat} (h : zv_e4 a b = true) : a = b := by
  unfold zv_e4 at h
  simp only [Bool.and_eq_true] at h
  obtain ⟨a1, a2, a3, a4⟩ := a
  obtain ⟨b1, b2, b3, b4⟩ := b
  have e1 : a1 = b1 := z_beq h.1.1
  have e2 : a2 = b2 := z_beq h.1.2
  have e3 : a3 = b3 := z_beq h.2.1
  have e4 : a4 = b4 := z_beq h.2.2
  rw [e1, e2, e3, e4]
theorem zv_mF_at {ρ : List Nat} {F : List zNV} : ∀ {φ : List Nat} {F1 : List zNV}, zv_mF ρ F φ F1 → ∀ {j k : Nat}, zv_l φ j = some k → ∃ f g, zv_l F1 j = some f ∧ zv_l F k = some g ∧ (zv_is f → g = zv_rn ρ f)
  | [], _, _, j, k, h => by cases h
  | _ :: _, [], h, _, _, _ => absurd h (fun h => h)
  | i :: φ, f :: F1, h, 0, k, hk => by
    have e : i = k := Option.some.inj hk
    subst e
    obtain ⟨g, g1, g2⟩ := h.1
    exact ⟨f, g, rfl, g1, g2⟩
  | i :: φ, f :: F1, h, j + 1, k, hk => zv_mF_at (φ := φ) (F1 := F1) h.2 (j := j) hk
theorem zv_mG_at {G : List (Int → Int)} : ∀ {ψ : List Nat} {G1 : List (Int → Int)}, zv_mG G ψ G1 → ∀ {j k : Nat}, zv_l ψ j = some k → ∃ g, zv_l G1 j = some g ∧ zv_l G k = some g
  | [], _, _, j, k, h => by cases h
  | _ :: _, [], h, _, _, _ => absurd h (fun h => h)
  | i :: ψ, g :: G1, h, 0, k, hk => by
    have e : i = k := Option.some.inj hk
    subst e
    exact ⟨g, rfl, h.1⟩
  | i :: ψ, g :: G1, h, j + 1, k, hk => zv_mG_at (ψ := ψ) (G1 := G1) h.2 (j := j) hk
theorem zv_pF_ne {ρ : List Nat} : ∀ {φ : List Nat} {F F1 : List zNV} {k : Nat}, (∀ j, zv_l φ j ≠ some k) → zv_l (zv_pF ρ φ F F1) k = zv_l F k
  | [], F, F1, k, _ => rfl
  | i :: φ, F, [], k, _ => rfl
  | i :: φ, F, f :: F1, k, h => by
    show zv_l (zv_pF ρ φ (zv_s F i (zv_rn ρ f)) F1) k = _
    rw [zv_pF_ne (fun j => h (j + 1))]
    exact zv_ls_ne (fun e => h 0 (by rw [← e]; rfl))
theorem zv_pF_at {ρ : List Nat} : ∀ {φ : List Nat} {F F1 : List zNV} {j k : Nat} {f : zNV}, zv_nd φ = true → zv_l φ j = some k → zv_l F1 j = some f → (∃ g, zv_l F k = some g) → zv_l (zv_pF ρ φ F F1) k = some (zv_rn ρ f)
  | [], F, F1, j, k, f, _, h, _, _ => by cases h
  | i :: φ, F, [], j, k, f, _, _, h, _ => by cases h
  | i :: φ, F, f0 :: F1, 0, k, f, hn, hk, hf, ⟨g, hg⟩ => by
    have e : i = k := Option.some.inj hk
    have e2 : f0 = f := Option.some.inj hf
    subst e; subst e2
    show zv_l (zv_pF ρ φ (zv_s F i (zv_rn ρ f0)) F1) i = _
    rw [zv_pF_ne (fun j h => by have := zv_nd_ok (L := i :: φ) (i := 0) (j := j + 1) hn rfl h; omega)]
    exact zv_ls_eq hg
  | i :: φ, F, f0 :: F1, j + 1, k, f, hn, hk, hf, ⟨g, hg⟩ => by
    have hne : i ≠ k := fun e => by have := zv_nd_ok (L := i :: φ) (i := 0) (j := j + 1) hn (by rw [e]; rfl) hk; omega
    have hn2 : zv_nd φ = true := by unfold zv_nd at hn; rw [Bool.and_eq_true] at hn; exact hn.2
    exact zv_pF_at (φ := φ) (j := j) hn2 hk hf ⟨g, by rw [zv_ls_ne hne]; exact hg⟩
theorem zv_pG_ne : ∀ {ψ : List Nat} {G G1 : List (Int → Int)} {k : Nat}, (∀ j, zv_l ψ j ≠ some k) → zv_l (zv_pG ψ G G1) k = zv_l G k
  | [], G, G1, k, _ => rfl
  | i :: ψ, G, [], k, _ => rfl
  | i :: ψ, G, g :: G1, k, h => by
    show zv_l (zv_pG ψ (zv_s G i g) G1) k = _
    rw [zv_pG_ne (fun j => h (j + 1))]
    exact zv_ls_ne (fun e => h 0 (by rw [← e]; rfl))
theorem zv_pG_at : ∀ {ψ : List Nat} {G G1 : List (Int → Int)} {j k : Nat} {g : Int → Int}, zv_nd ψ = true → zv_l ψ j = some k → zv_l G1 j = some g → (∃ g, zv_l G k = some g) → zv_l (zv_pG ψ G G1) k = some g
  | [], G, G1, j, k, f, _, h, _, _ => by cases h
  | i :: ψ, G, [], j, k, f, _, _, h, _ => by cases h
  | i :: ψ, G, f0 :: G1, 0, k, f, hn, hk, hf, ⟨g, hg⟩ => by
    have e : i = k := Option.some.inj hk
    have e2 : f0 = f := Option.some.inj hf
    subst e; subst e2
    show zv_l (zv_pG ψ (zv_s G i f0) G1) i = _
    rw [zv_pG_ne (fun j h => by have := zv_nd_ok (L := i :: ψ) (i := 0) (j := j + 1) hn rfl h; omega)]
    exact zv_ls_eq hg
  | i :: ψ, G, f0 :: G1, j + 1, k, f, hn, hk, hf, ⟨g, hg⟩ => by
    have hne : i ≠ k := fun e => by have := zv_nd_ok (L := i :: ψ) (i := 0) (j := j + 1) hn (by rw [e]; rfl) hk; omega
    have hn2 : zv_nd ψ = true := by unfold zv_nd at hn; rw [Bool.and_eq_true] at hn; exact hn.2
    exact zv_pG_at (ψ := ψ) (j := j) hn2 hk hf ⟨g, by rw [zv_ls_ne hne]; exact hg⟩
end
section
/-! A contract over some names is used over more of them: the theorem. -/
theorem zv_wfOO {y : zNL} (h : zv_wf y = true) {q u : Nat × Nat} (hq : q ∈ n_O y) (hu : u ∈ n_O y) (e : q.1 = u.1) : q.2 = u.2 := by
  have h := (zv_wf0_of h).2
  unfold zv_wf0 at h
  simp only [Bool.and_eq_true] at h
  have h1 := List.all_eq_true.mp h.1.2 q hq
  simp only [Bool.and_eq_true] at h1
  have h2 := List.all_eq_true.mp h1.1.1.2 u hu
  simp only [Bool.or_eq_true, Bool.not_eq_true'] at h2
  rcases h2 with h3 | h3
  · rw [e, Nat.beq_refl] at h3; cases h3
  · exact z_beq h3
theorem zv_w_rn {ρ : List Nat} {A : Nat → Nat} {c : Nat} {w : Value} (hr : ρ.length ≤ 900) (hl : ∀ d ∈ ρ, d < 900) (h : zv_w A (zv_rc ρ c) w) : zv_w (fun c => A (zv_rc ρ c)) c w := by
  by_cases hc : c < 5000
  · have hc2 : zv_rc ρ c < 5000 := by
      unfold zv_rc
      cases e : zv_l ρ c with
      | none => exact hc
      | some d =>
        rw [zv_l_get] at e
        have := hl d (List.mem_of_getElem? e)
        show d < 5000
        omega
    rw [zv_w_r h hc2]
    exact zv_w_mk (A := fun c => A (zv_rc ρ c)) hc
  · have e : zv_rc ρ c = c := by
      unfold zv_rc
      rw [zv_l_get, List.getElem?_eq_none (by omega)]
    rw [e] at h
    have hb : Nat.blt c 5000 = false := by
      cases hb : Nat.blt c 5000 with
      | false => rfl
      | true => exact absurd (z_blt hb) hc
    unfold zv_w at h ⊢
    rw [hb] at h ⊢
    exact h
theorem zv_st_rn {ρ : List Nat} {A : Nat → Nat} (hr : ρ.length ≤ 900) (hl : ∀ d ∈ ρ, d < 900) : ∀ {va : List zNV} {vals : List Value}, zv_st A (va.map (zv_rn ρ)) vals → zv_st (fun c => A (zv_rc ρ c)) va vals
  | [], _, h => h
  | .inl x :: va, _, ⟨w, k', e, hv, h⟩ => ⟨w, k', e, hv, zv_st_rn hr hl (va := va) h⟩
  | .inr c :: va, _, ⟨w, k', e, hv, h⟩ => ⟨w, k', e, zv_w_rn hr hl hv, zv_st_rn hr hl (va := va) h⟩
def zv_Fn (TBL : List Cond) (cl : List vw_C) (KXf : (Nat → Nat) → Nat → State → Heap → Prop) (y : zNL) (mm : zM) (rm : Nat × Nat) (va F : List zNV) (G : List (Int → Int)) (r : Option Int) (F' : List zNV) (G' : List (Int → Int)) : Prop :=
  zv_OK TBL cl KXf y mm rm (fun a b c => a = va ∧ b = F ∧ c = G) (fun _ _ _ q b c => q = r ∧ b = F' ∧ c = G')
def zv_ek2 (y2 : zNL) : Bool := Nat.ble (n_N y2) 900 && (n_R y2).all (fun q => (n_O y2).any (fun u => Nat.beq u.1 q.1 && Nat.beq u.2 q.2.1))
section ZVEMB
variable {y1 y2 : zNL} {ρ φ ψ : List Nat}
theorem zv_any4 {L : List (Nat × Nat × Nat × Nat)} {b : Nat × Nat × Nat × Nat} (h : L.any (fun u => zv_e4 u b) = true) : b ∈ L := by
  obtain ⟨u, hu, h2⟩ := List.any_eq_true.mp h
  rw [← zv_e4_ok h2]; exact hu
theorem zv_ek_ok (hk : zv_ek y1 y2 ρ φ ψ = true) : (ρ.length = n_N y1 ∧ ρ.length ≤ 900 ∧ zv_nd ρ = true ∧ zv_nd φ = true ∧ zv_nd ψ = true ∧ ∀ d ∈ ρ, d < n_N y2) ∧
    ((∀ q ∈ n_O y1, (zv_rc ρ q.1, q.2) ∈ n_O y2) ∧ (∀ q ∈ n_I y1, q.2.2.2 < φ.length ∧ (zv_rc ρ q.1, q.2.1, q.2.2.1, zv_rc φ q.2.2.2) ∈ n_I y2) ∧ (∀ q ∈ n_R y1, (zv_rc ρ q.1, q.2.1, q.2.2.1, zv_rc ρ q.2.2.2) ∈ n_R y2) ∧ (∀ q ∈ n_A y1, q.2.2.2 < ψ.length ∧ (zv_rc ρ q.1, q.2.1, q.2.2.1, zv_rc ψ q.2.2.2) ∈ n_A y2)) ∧
    (∀ c, c < ρ.length → (∃ q ∈ n_O y1, q.1 = c) ∨ ∃ q ∈ n_A y1, q.1 = c) ∧ (∀ j, j < φ.length → ∃ q ∈ n_I y1, q.2.2.2 = j) ∧ ∀ j, j < ψ.length → ∃ q ∈ n_A y1, q.2.2.2 = j := by
  unfold zv_ek at hk
  simp only [Bool.and_eq_true] at hk
  obtain ⟨⟨⟨⟨⟨⟨a1, a2⟩, a3⟩, a4, a5⟩, a6⟩, ⟨⟨b1, b2⟩, b3⟩, b4⟩, ⟨c1, c2⟩, c3⟩ := hk
  refine ⟨⟨z_beq a1, Nat.le_of_ble_eq_true a2, a3, a4, a5, fun d hd => z_blt (List.all_eq_true.mp a6 d hd)⟩, ⟨fun q hq => ?_, fun q hq => ?_, fun q hq => ?_, fun q hq => ?_⟩, fun c hc => ?_, fun j hj => ?_, fun j hj => ?_⟩
  · obtain ⟨u, hu, h2⟩ := List.any_eq_true.mp (List.all_eq_true.mp b1 q hq)
    rw [Bool.and_eq_true] at h2
    rw [← z_beq h2.1, ← z_beq h2.2]; exact hu
  · have h2 := List.all_eq_true.mp b2 q hq
    rw [Bool.and_eq_true] at h2
    exact ⟨z_blt h2.1, zv_any4 h2.2⟩
  · exact zv_any4 (List.all_eq_true.mp b3 q hq)
  · have h2 := List.all_eq_true.mp b4 q hq
    rw [Bool.and_eq_true] at h2
    exact ⟨z_blt h2.1, zv_any4 h2.2⟩
  · have h2 := List.all_eq_true.mp c1 c (List.mem_range.mpr hc)
    rw [Bool.or_eq_true] at h2
    rcases h2 with h2 | h2
    · obtain ⟨u, hu, h3⟩ := List.any_eq_true.mp h2
      exact Or.inl ⟨u, hu, z_beq h3⟩
    · obtain ⟨u, hu, h3⟩ := List.any_eq_true.mp h2
      exact Or.inr ⟨u, hu, z_beq h3⟩
  · obtain ⟨u, hu, h3⟩ := List.any_eq_true.mp (List.all_eq_true.mp c2 j (List.mem_range.mpr hj))
    exact ⟨u, hu, z_beq h3⟩
  · obtain ⟨u, hu, h3⟩ := List.any_eq_true.mp (List.all_eq_true.mp c3 j (List.mem_range.mpr hj))
    exact ⟨u, hu, z_beq h3⟩
theorem zv_rc_at {c : Nat} (h : c < ρ.length) : zv_l ρ c = some (zv_rc ρ c) := by
  obtain ⟨v, hv⟩ := zv_l_lt h
  rw [zv_rc_of hv]; exact hv
theorem zv_rc_out {c : Nat} (h : ρ.length ≤ c) : zv_rc ρ c = c := by
  unfold zv_rc
  rw [zv_l_get, List.getElem?_eq_none h]
theorem zv_rc_in {c : Nat} (h : c < ρ.length) : zv_rc ρ c ∈ ρ := by
  have := zv_rc_at h
  rw [zv_l_get] at this
  exact List.mem_of_getElem? this
end ZVEMB
theorem zv_emb {TBL : List Cond} {cl : List vw_C} {KXf : (Nat → Nat) → Nat → State → Heap → Prop} {y1 y2 : zNL} {mm : zM} {rm : Nat × Nat} {va F1 F1' F : List zNV} {G1 G1' G : List (Int → Int)} {r : Option Int} {ρ φ ψ : List Nat} (hw1 : zv_wf y1 = true) (hw2 : zv_wf y2 = true) (hk2 : zv_ek2 y2 = true) (hk : zv_ek y1 y2 ρ φ ψ = true) (h : zv_Fn TBL cl KXf y1 mm rm va F1 G1 r F1' G1') (hF : zv_mF ρ F φ F1) (hG : zv_mG G ψ G1) : zv_Fn TBL cl KXf y2 mm rm (va.map (zv_rn ρ)) F G r (zv_pF ρ φ F F1') (zv_pG ψ G G1') := by
  intro l OB D DA sz A va2 F2 G2 hP hinj hge hOB
  obtain ⟨rfl, rfl, rfl⟩ := hP
  obtain ⟨⟨hN, h9, ndR, ndF, ndG, hlt⟩, ⟨hO, hI, hR, hA⟩, hc, hpF, hpG⟩ := zv_ek_ok hk
  unfold zv_ek2 at hk2
  rw [Bool.and_eq_true] at hk2
  have h29 : n_N y2 ≤ 900 := Nat.le_of_ble_eq_true hk2.1
  have hRO : ∀ q ∈ n_R y2, ∃ u ∈ n_O y2, u.1 = q.1 ∧ u.2 = q.2.1 := fun q hq => by
    obtain ⟨u, hu, h3⟩ := List.any_eq_true.mp (List.all_eq_true.mp hk2.2 q hq)
    rw [Bool.and_eq_true] at h3
    exact ⟨u, hu, z_beq h3.1, z_beq h3.2⟩
  have hl9 : ∀ d ∈ ρ, d < 900 := fun d hd => by have := hlt d hd; omega
  have rlt : ∀ {c}, c < n_N y1 → zv_rc ρ c < n_N y2 := fun {c} h => hlt _ (zv_rc_in (by omega))
  have rinj : ∀ {a b}, a < n_N y1 → b < n_N y1 → zv_rc ρ a = zv_rc ρ b → a = b := fun {a b} ha hb e => zv_nd_ok ndR (zv_rc_at (by omega)) (by rw [e]; exact zv_rc_at (by omega))
  have rk : ∀ {c}, c < 1000 → zv_rc ρ c < 1000 := fun {c} h => by
    rcases Nat.lt_or_ge c ρ.length with q | q
    · have := rlt (c := c) (by omega); omega
    · rw [zv_rc_out q]; exact h
  have rk2 : ∀ {c}, zv_rc ρ c < 1000 → c < 1000 := fun {c} h => by
    rcases Nat.lt_or_ge c ρ.length with q | q
    · omega
    · rw [zv_rc_out q] at h; exact h
  have hok := h l OB D DA sz (fun c => A (zv_rc ρ c)) va F1 G1 ⟨rfl, rfl, rfl⟩ (fun a b ha hb e => rinj ha hb (hinj _ _ (rlt ha) (rlt hb) e)) (fun a ha => hge _ (rlt ha)) (fun k => by show A (zv_rc ρ (900 + k)) = _; rw [zv_rc_out (by omega)]; exact hOB k)
  intro p e hadm hf1 hf2 s m args below hfr happ hPre hK0
  obtain ⟨vals, rfl, hst, hrep, hsz, hK, hX⟩ := hPre
  have rep1 : zv_rep D DA cl y1 (fun c => A (zv_rc ρ c)) F1 G1 s.heap := by
    refine ⟨fun q hq => ?_, fun q hq => ?_, fun q hq => ?_, fun q hq => ?_⟩
    · exact hrep.1 _ (hO q hq)
    · obtain ⟨hl, hm⟩ := hI q hq
      obtain ⟨r0, w, f, c1, c2, c3, c4, c5⟩ := hrep.2.1 _ hm
      obtain ⟨f1, g, e1, e2, e3⟩ := zv_mF_at hF (zv_rc_at hl)
      have c4 : zv_l F2 (zv_rc φ q.2.2.2) = some f := c4
      rw [c4] at e2
      cases e2
      refine ⟨r0, w, f1, c1, c2, c3, e1, fun his => ?_⟩
      have ef := e3 his
      match f1, his, ef with
      | .inl x, _, ef => rw [ef] at c5; exact c5 trivial
      | .inr c, his, ef => rw [ef] at c5; exact zv_w_rn h9 hl9 (c5 (rk his))
    · exact hrep.2.2.1 _ (hR q hq)
    · obtain ⟨hl, hm⟩ := hA q hq
      obtain ⟨f, g, x1, x2, x3⟩ := hrep.2.2.2 _ hm
      obtain ⟨g1, e1, e2⟩ := zv_mG_at hG (zv_rc_at hl)
      have x2 : zv_l G2 (zv_rc ψ q.2.2.2) = some g := x2
      rw [x2] at e2
      cases e2
      exact ⟨f, g, x1, e1, x3⟩
  obtain ⟨n, o, k1, k2, k3, k4, k5⟩ := hok p e hadm hf1 hf2 s m _ below hfr happ ⟨vals, rfl, zv_st_rn h9 hl9 hst, rep1, hsz, hK, hX⟩ trivial
  refine ⟨n, o, k1, k2, k3, ?_, k5⟩
  obtain ⟨r', v, F', G', e0, q1, q2, q3, rfl, rfl, rfl⟩ := k4
  have hun : ∀ b, b < n_N y2 → (¬ ∃ c, c < n_N y1 ∧ zv_rc ρ c = b) → (_ : Heap)[A b]? = s.heap[A b]? := fun b hb hne => q3.2.1 (A b) (fun c hc e => hne ⟨c, hc, hinj _ _ (rlt hc) hb e⟩)
  have nFr : ∀ q ∈ n_I y2, (∀ u ∈ n_I y1, ¬ (zv_rc ρ u.1 = q.1 ∧ u.2.2.1 = q.2.2.1)) → ∀ j, zv_l φ j ≠ some q.2.2.2 := fun q hq hne j hj => by
    obtain ⟨u, hu, ej⟩ := hpF j (zv_l_len hj)
    obtain ⟨hl, hm⟩ := hI u hu
    have ep : zv_rc φ u.2.2.2 = q.2.2.2 := by rw [ej]; exact zv_rc_of hj
    obtain ⟨w1, w2⟩ := zv_wfI hw2 hm hq
    exact hne u hu (w1.mp ep)
  have nGr : ∀ q ∈ n_A y2, (∀ u ∈ n_A y1, zv_rc ρ u.1 ≠ q.1) → ∀ j, zv_l ψ j ≠ some q.2.2.2 := fun q hq hne j hj => by
    obtain ⟨u, hu, ej⟩ := hpG j (zv_l_len hj)
    obtain ⟨hl, hm⟩ := hA u hu
    have ep : zv_rc ψ u.2.2.2 = q.2.2.2 := by rw [ej]; exact zv_rc_of hj
    exact hne u hu (((zv_wfA hw2 hm).2.1 q hq).1.mp ep)
  refine ⟨r', v, _, _, e0, q1, ⟨fun q hq => ?_, fun q hq => ?_, fun q hq => ?_, fun q hq => ?_⟩, ⟨q3.1, fun b hb => q3.2.1 b (fun c hc => hb _ (rlt hc)), fun q hq r0 k w hcl hkr hni hs => ?_⟩, rfl, rfl, rfl⟩
  · have hq1 := (zv_wfO hw2 hq).1
    by_cases him : ∃ c, c < n_N y1 ∧ zv_rc ρ c = q.1
    · obtain ⟨c, c1, c2⟩ := him
      rcases hc c (by omega) with ⟨u, hu, eu⟩ | ⟨u, hu, eu⟩
      · have ecl := zv_wfOO hw2 (hO u hu) hq (by show zv_rc ρ u.1 = q.1; rw [eu]; exact c2)
        obtain ⟨r0, V, y3, y4⟩ := q2.1 u hu
        have ecl : u.2 = q.2 := ecl
        rw [ecl] at y3 y4
        have ea : A (zv_rc ρ u.1) = A q.1 := by rw [eu, c2]
        exact ⟨r0, V, y3, by rw [← ea]; exact y4⟩
      · exact absurd (by show q.1 = zv_rc ρ u.1; rw [eu, c2]) ((zv_wfO hw2 hq).2.1 _ (hA u hu).2)
    · obtain ⟨r0, V, y3, y4⟩ := hrep.1 q hq
      exact ⟨r0, V, y3, y4.kept (hun _ hq1 him)⟩
  · obtain ⟨hq1, oo, ho, ho1, ho2⟩ := zv_wfIn hw2 hq
    obtain ⟨r0, w, f, c1, c2, c3, c4, c5⟩ := hrep.2.1 q hq
    by_cases hin : ∃ u ∈ n_I y1, zv_rc ρ u.1 = q.1 ∧ u.2.2.1 = q.2.2.1
    · obtain ⟨u, hu, eu1, eu2⟩ := hin
      obtain ⟨hl, hm⟩ := hI u hu
      obtain ⟨w1, w2⟩ := zv_wfI hw2 hm hq
      have ep : zv_rc φ u.2.2.2 = q.2.2.2 := w1.mpr ⟨eu1, eu2⟩
      have ec : u.2.1 = q.2.1 := w2 eu1
      obtain ⟨r1, w', f', d1, d2, d3, d4, d5⟩ := q2.2.1 u hu
      have hlp := zv_rc_at hl
      rw [ep] at hlp
      rw [ec] at d1 d3
      rw [eu2] at d2 d3
      have ea : A (zv_rc ρ u.1) = A q.1 := by rw [eu1]
      refine ⟨r1, w', zv_rn ρ f', d1, d2, by rw [← ea]; exact d3, zv_pF_at ndF hlp d4 ⟨f, c4⟩, fun his => ?_⟩
      match f', his, d5 with
      | .inl x, _, d5 => exact d5 trivial
      | .inr c, his, d5 =>
        have hc := rk2 his
        have hw : w' = .ref (A (zv_rc ρ c)) := zv_w_r (A := fun c => A (zv_rc ρ c)) (d5 hc) (by have : c < 1000 := hc; omega)
        rw [hw]
        exact zv_w_mk (by have : zv_rc ρ c < 1000 := his; omega)
    · have hne : ∀ u ∈ n_I y1, ¬ (zv_rc ρ u.1 = q.1 ∧ u.2.2.1 = q.2.2.1) := fun u hu he => hin ⟨u, hu, he⟩
      refine ⟨r0, w, f, c1, c2, ?_, by rw [zv_pF_ne (nFr q hq hne)]; exact c4, c5⟩
      by_cases him : ∃ c, c < n_N y1 ∧ zv_rc ρ c = q.1
      · obtain ⟨c, x1, x2⟩ := him
        rcases hc c (by omega) with ⟨u, hu, eu⟩ | ⟨u, hu, eu⟩
        · have ecl : u.2 = oo.2 := zv_wfOO (q := (zv_rc ρ u.1, u.2)) hw2 (hO u hu) ho (by show zv_rc ρ u.1 = oo.1; rw [eu, ho1]; exact x2)
          have ea : A (zv_rc ρ u.1) = A q.1 := by rw [eu, x2]
          have := q3.2.2 u hu r0 q.2.2.1 w (by rw [ecl, ho2]; exact c1) c2 (fun i hi e1 e2 => hne i hi ⟨by rw [e1, eu]; exact x2, e2⟩) (by show z_sl _ (A (zv_rc ρ u.1)) _ _; rw [ea, ecl, ho2]; exact c3)
          have this : z_sl _ (A (zv_rc ρ u.1)) (D.2 u.2 q.2.2.1) w := this
          rw [ea, ecl, ho2] at this
          exact this
        · exact absurd (by show oo.1 = zv_rc ρ u.1; rw [ho1, eu, x2]) ((zv_wfO hw2 ho).2.1 _ (hA u hu).2)
      · exact z_sl_kept c3 (hun _ hq1 him)
  · obtain ⟨hq1, -⟩ := zv_wfR hw2 hq
    obtain ⟨r0, c1, c2, c3⟩ := hrep.2.2.1 q hq
    obtain ⟨oo, ho, ho1, ho2⟩ := hRO q hq
    refine ⟨r0, c1, c2, ?_⟩
    by_cases him : ∃ c, c < n_N y1 ∧ zv_rc ρ c = q.1
    · obtain ⟨c, x1, x2⟩ := him
      rcases hc c (by omega) with ⟨u, hu, eu⟩ | ⟨u, hu, eu⟩
      · have ecl : u.2 = oo.2 := zv_wfOO (q := (zv_rc ρ u.1, u.2)) hw2 (hO u hu) ho (by show zv_rc ρ u.1 = oo.1; rw [eu, ho1]; exact x2)
        have ea : A (zv_rc ρ u.1) = A q.1 := by rw [eu, x2]
        have := q3.2.2 u hu r0 q.2.2.1 _ (by rw [ecl, ho2]; exact c1) c2 (fun i hi e1 e2 => (zv_wfIR hw2 (hI i hi).2 hq).1 ⟨by show zv_rc ρ i.1 = q.1; rw [e1, eu]; exact x2, e2⟩) (by show z_sl _ (A (zv_rc ρ u.1)) _ _; rw [ea, ecl, ho2]; exact c3)
        have this : z_sl _ (A (zv_rc ρ u.1)) (D.2 u.2 q.2.2.1) _ := this
        rw [ea, ecl, ho2] at this
        exact this
      · exact absurd (by show oo.1 = zv_rc ρ u.1; rw [ho1, eu, x2]) ((zv_wfO hw2 ho).2.1 _ (hA u hu).2)
    · exact z_sl_kept c3 (hun _ hq1 him)
  · obtain ⟨hq1, w2, w3, w4⟩ := zv_wfA hw2 hq
    obtain ⟨f, g, x1, x2, x3⟩ := hrep.2.2.2 q hq
    by_cases hin : ∃ u ∈ n_A y1, zv_rc ρ u.1 = q.1
    · obtain ⟨u, hu, eu⟩ := hin
      obtain ⟨hl, hm⟩ := hA u hu
      obtain ⟨p1, p2⟩ := w2 _ hm
      obtain ⟨p3, p4⟩ := p2 eu.symm
      have ep : q.2.2.2 = zv_rc ψ u.2.2.2 := p1.mpr eu.symm
      have p3 : q.2.1 = u.2.1 := p3
      have p4 : q.2.2.1 = u.2.2.1 := p4
      obtain ⟨f', g', z1, z2, z3⟩ := q2.2.2.2 u hu
      have hlp := zv_rc_at hl
      rw [← ep] at hlp
      have ea : A (zv_rc ρ u.1) = A q.1 := by rw [eu]
      refine ⟨f', g', ?_, zv_pG_at ndG hlp z2 ⟨g, x2⟩, by rw [p4, p3]; exact z3⟩
      rw [← ea, p3, p4]
      exact z1
    · have hne : ∀ u ∈ n_A y1, zv_rc ρ u.1 ≠ q.1 := fun u hu he => hin ⟨u, hu, he⟩
      refine ⟨f, g, ?_, by rw [zv_pG_ne (nGr q hq hne)]; exact x2, x3⟩
      by_cases him : ∃ c, c < n_N y1 ∧ zv_rc ρ c = q.1
      · obtain ⟨c, y1', y2'⟩ := him
        rcases hc c (by omega) with ⟨u, hu, eu⟩ | ⟨u, hu, eu⟩
        · exact absurd (by show zv_rc ρ u.1 = q.1; rw [eu]; exact y2') ((zv_wfO hw2 (hO u hu)).2.1 _ hq)
        · exact absurd (by rw [eu]; exact y2') (hne u hu)
      · rw [hun _ hq1 him]; exact x1
  · have hq1 := (zv_wfO hw2 hq).1
    by_cases him : ∃ c, c < n_N y1 ∧ zv_rc ρ c = q.1
    · obtain ⟨c, x1, x2⟩ := him
      rcases hc c (by omega) with ⟨u, hu, eu⟩ | ⟨u, hu, eu⟩
      · have ecl : u.2 = q.2 := zv_wfOO (q := (zv_rc ρ u.1, u.2)) hw2 (hO u hu) hq (by show zv_rc ρ u.1 = q.1; rw [eu]; exact x2)
        have ea : A (zv_rc ρ u.1) = A q.1 := by rw [eu, x2]
        have := q3.2.2 u hu r0 k w (by rw [ecl]; exact hcl) hkr (fun i hi e1 e2 => hni _ (hI i hi).2 (by show zv_rc ρ i.1 = q.1; rw [e1, eu]; exact x2) e2) (by show z_sl _ (A (zv_rc ρ u.1)) _ _; rw [ea, ecl]; exact hs)
        have this : z_sl _ (A (zv_rc ρ u.1)) (D.2 u.2 k) w := this
        rw [ea, ecl] at this
        exact this
      · exact absurd (by show q.1 = zv_rc ρ u.1; rw [eu, x2]) ((zv_wfO hw2 hq).2.1 _ (hA u hu).2)
    · exact z_sl_kept hs (hun _ hq1 him)
/-! The same, with what comes of it written place by place. -/
def zv_gt (ρ : List Nat) (F1 : List zNV) (j : Nat) (d : zNV) : zNV := match zv_l F1 j with
  | some f => zv_rn ρ f
  | none => d
def zv_mkF (ρ : List Nat) (F1 : List zNV) : List (Option Nat) → List zNV → List zNV
  | none :: p, f :: F => f :: zv_mkF ρ F1 p F
  | some j :: p, f :: F => zv_gt ρ F1 j f :: zv_mkF ρ F1 p F
  | _, F => F
def zv_gg (G1 : List (Int → Int)) (j : Nat) (d : Int → Int) : Int → Int := match zv_l G1 j with
  | some g => g
  | none => d
def zv_mkG (G1 : List (Int → Int)) : List (Option Nat) → List (Int → Int) → List (Int → Int)
  | none :: p, f :: F => f :: zv_mkG G1 p F
  | some j :: p, f :: F => zv_gg G1 j f :: zv_mkG G1 p F
  | _, F => F
def zv_pn (φ : List Nat) (p : List (Option Nat)) : Bool := φ.all (fun k => Nat.blt k p.length) && (List.range p.length).all (fun k => match zv_l p k with
  | some (some j) => Nat.blt j φ.length && Nat.beq (zv_rc φ j) k
  | _ => φ.all (fun q => !(Nat.beq q k)))
theorem zv_mkF_l {ρ : List Nat} {F1 : List zNV} : ∀ {p : List (Option Nat)} {F : List zNV} {k : Nat}, zv_l (zv_mkF ρ F1 p F) k = match zv_l p k with
    | some (some j) => (zv_l F k).map (zv_gt ρ F1 j)
    | _ => zv_l F k
  | [], F, k => by cases F <;> rfl
  | none :: p, [], k => by
    show zv_l ([] : List zNV) k = _
    cases h : zv_l (none :: p) k with
    | none => rfl
    | some o => cases o <;> rfl
  | some j :: p, [], k => by
    show zv_l ([] : List zNV) k = _
    cases h : zv_l (some j :: p) k with
    | none => rfl
    | some o => cases o <;> rfl
  | none :: p, f :: F, 0 => rfl
  | some j :: p, f :: F, 0 => rfl
  | none :: p, f :: F, k + 1 => zv_mkF_l (p := p) (F := F) (k := k)
  | some j :: p, f :: F, k + 1 => zv_mkF_l (p := p) (F := F) (k := k)
theorem zv_mkG_l {G1 : List (Int → Int)} : ∀ {p : List (Option Nat)} {F : List (Int → Int)} {k : Nat}, zv_l (zv_mkG G1 p F) k = match zv_l p k with
    | some (some j) => (zv_l F k).map (zv_gg G1 j)
    | _ => zv_l F k
  | [], F, k => by cases F <;> rfl
  | none :: p, [], k => by
    show zv_l ([] : List (Int → Int)) k = _
    cases h : zv_l (none :: p) k with
    | none => rfl
    | some o => cases o <;> rfl
  | some j :: p, [], k => by
    show zv_l ([] : List (Int → Int)) k = _
    cases h : zv_l (some j :: p) k with
    | none => rfl
    | some o => cases o <;> rfl
  | none :: p, f :: F, 0 => rfl
  | some j :: p, f :: F, 0 => rfl
  | none :: p, f :: F, k + 1 => zv_mkG_l (p := p) (F := F) (k := k)
  | some j :: p, f :: F, k + 1 => zv_mkG_l (p := p) (F := F) (k := k)
theorem zv_ext {α : Type} {A B : List α} (h : ∀ k, zv_l A k = zv_l B k) : A = B := by
  refine List.ext_getElem? fun k => ?_
  rw [← zv_l_get, ← zv_l_get]
  exact h k
theorem zv_pn_ok {φ : List Nat} {p : List (Option Nat)} (h : zv_pn φ p = true) : (∀ j k, zv_l φ j = some k → k < p.length) ∧ ∀ k, k < p.length → (∃ j, zv_l p k = some (some j) ∧ zv_l φ j = some k) ∨ (zv_l p k = some none ∧ ∀ j, zv_l φ j ≠ some k) := by
  unfold zv_pn at h
  rw [Bool.and_eq_true] at h
  refine ⟨fun j k hj => ?_, fun k hk => ?_⟩
  · rw [zv_l_get] at hj
    exact z_blt (List.all_eq_true.mp h.1 k (List.mem_of_getElem? hj))
  · have h2 := List.all_eq_true.mp h.2 k (List.mem_range.mpr hk)
    obtain ⟨v, hv⟩ := zv_l_lt hk
    rw [hv] at h2
    cases v with
    | some j =>
      have h2 : (Nat.blt j φ.length && Nat.beq (zv_rc φ j) k) = true := h2
      rw [Bool.and_eq_true] at h2
      refine Or.inl ⟨j, hv, ?_⟩
      rw [← z_beq h2.2]
      exact zv_rc_at (z_blt h2.1)
    | none =>
      have h2 : φ.all (fun q => !(Nat.beq q k)) = true := h2
      refine Or.inr ⟨hv, fun j hj => ?_⟩
      rw [zv_l_get] at hj
      have := List.all_eq_true.mp h2 k (List.mem_of_getElem? hj)
      rw [Nat.beq_refl] at this
      cases this
theorem zv_l_none {α : Type} {L : List α} {k : Nat} (h : L.length ≤ k) : zv_l L k = none := by
  rw [zv_l_get]
  exact List.getElem?_eq_none h
theorem zv_mkF_eq {ρ φ : List Nat} {p : List (Option Nat)} {F F1 : List zNV} (hp : zv_pn φ p = true) (hn : zv_nd φ = true) (hF : p.length = F.length) (h1 : F1.length = φ.length) : zv_mkF ρ F1 p F = zv_pF ρ φ F F1 := by
  obtain ⟨p1, p2⟩ := zv_pn_ok hp
  refine zv_ext fun k => ?_
  rw [zv_mkF_l]
  rcases Nat.lt_or_ge k p.length with lt | ge
  · obtain ⟨f, hf⟩ := zv_l_lt (show k < F.length by omega)
    rcases p2 k lt with ⟨j, j1, j2⟩ | ⟨j1, j2⟩
    · obtain ⟨g, hg⟩ := zv_l_lt (show j < F1.length by rw [h1]; exact zv_l_len j2)
      rw [j1, zv_pF_at hn j2 hg ⟨f, hf⟩, hf]
      show some (zv_gt ρ F1 j f) = _
      unfold zv_gt
      rw [hg]
    · rw [j1, zv_pF_ne j2]
  · rw [zv_l_none ge, zv_pF_ne (fun j hj => by have := p1 j k hj; omega)]
theorem zv_mkG_eq {ψ : List Nat} {p : List (Option Nat)} {G G1 : List (Int → Int)} (hp : zv_pn ψ p = true) (hn : zv_nd ψ = true) (hF : p.length = G.length) (h1 : G1.length = ψ.length) : zv_mkG G1 p G = zv_pG ψ G G1 := by
  obtain ⟨p1, p2⟩ := zv_pn_ok hp
  refine zv_ext fun k => ?_
  rw [zv_mkG_l]
  rcases Nat.lt_or_ge k p.length with lt | ge
  · obtain ⟨f, hf⟩ := zv_l_lt (show k < G.length by omega)
    rcases p2 k lt with ⟨j, j1, j2⟩ | ⟨j1, j2⟩
    · obtain ⟨g, hg⟩ := zv_l_lt (show j < G1.length by rw [h1]; exact zv_l_len j2)
      rw [j1, zv_pG_at hn j2 hg ⟨f, hf⟩, hf]
      show some (zv_gg G1 j f) = _
      unfold zv_gg
      rw [hg]
    · rw [j1, zv_pG_ne j2]
  · rw [zv_l_none ge, zv_pG_ne (fun j hj => by have := p1 j k hj; omega)]
theorem zv_emq {TBL : List Cond} {cl : List vw_C} {KXf : (Nat → Nat) → Nat → State → Heap → Prop} {y1 y2 : zNL} {mm : zM} {rm : Nat × Nat} {va va2 F1 F1' F F' : List zNV} {G1 G1' G G' : List (Int → Int)} {r : Option Int} {ρ φ ψ : List Nat} (pF pG : List (Option Nat)) (hw1 : zv_wf y1 = true) (hw2 : zv_wf y2 = true) (hk2 : zv_ek2 y2 = true) (hk : (zv_ek y1 y2 ρ φ ψ && (zv_pn φ pF && zv_pn ψ pG)) = true) (h : zv_Fn TBL cl KXf y1 mm rm va F1 G1 r F1' G1') (hF : zv_mF ρ F φ F1) (hG : zv_mG G ψ G1)
    (l1 : pF.length = F.length) (l2 : F1'.length = φ.length) (l3 : pG.length = G.length) (l4 : G1'.length = ψ.length) (e1 : va.map (zv_rn ρ) = va2) (e2 : zv_mkF ρ F1' pF F = F') (e3 : zv_mkG G1' pG G = G') : zv_Fn TBL cl KXf y2 mm rm va2 F G r F' G' := by
  rw [Bool.and_eq_true, Bool.and_eq_true] at hk
  obtain ⟨hk, k1, k2⟩ := hk
  obtain ⟨⟨-, -, -, ndF, ndG, -⟩, -⟩ := zv_ek_ok hk
  subst e1; subst e2; subst e3
  rw [zv_mkF_eq k1 ndF l1 l2, zv_mkG_eq k2 ndG l3 l4]
  exact zv_emb hw1 hw2 hk2 hk h hF hG
section ZVCALLS
variable {cl : List vw_C} {FT : Nat → Nat → FieldType} {KXf : (Nat → Nat) → Nat → State → Heap → Prop} {TBL : List Cond} {MT : List zM} {y : zNL} {mm : zM} {K : zK} {rm : Nat × Nat} {good : Nat → List zNV → List zNV → List zNV → List (Int → Int) → Prop}
variable {pc : Nat} {L S S0 : List zNV} {F F' : List zNV} {G G' : List (Int → Int)} {i c : Nat} {mm2 : zM} {rm2 : Nat × Nat} {va : List zNV} {r : Option Int}
theorem zv_cv (hB : zv_B cl FT KXf TBL MT y mm K rm good) (hok : zv_Fn TBL cl KXf y mm2 rm2 (.inr c :: va) F G r F' G') (hd : decode mm.2.1 pc = .ok (.invokevirtual i, 3)) (hl : zv_lk K MT (fun k => Nat.beq k 0) i = some mm2)
    (hc : ((n_O y).any (fun o => Nat.beq o.1 c && Nat.beq o.2 mm2.2.2.2.2.2) && Nat.beq va.length mm2.2.2.2.2.1 && (Nat.ble S.length 8 && S.all zv_n1)) = true) (hr1 : rm2.1 + 1 ≤ rm.1) (hr2 : 8 + (mm2.2.2.1 + 11) + rm2.2 ≤ rm.2) (hs : S0 = va.reverse ++ .inr c :: S)
    (k : good (pc + 3) L (zv_ro r S) F' G') : good pc L S0 F G := by
  rw [Bool.and_eq_true, Bool.and_eq_true] at hc
  rw [hs]
  exact zv_inv0 (va := va) hB hok hd hl hc.1.1 hc.1.2 hc.2 (by rw [Nat.ble_eq_true_of_le hr1, Nat.ble_eq_true_of_le hr2]; rfl) ⟨rfl, rfl, rfl⟩ (fun r2 F2 G2 h => by obtain ⟨rfl, rfl, rfl⟩ := h; exact k)
theorem zv_cs (hB : zv_B cl FT KXf TBL MT y mm K rm good) (hok : zv_Fn TBL cl KXf y mm2 rm2 va F G r F' G') (hd : decode mm.2.1 pc = .ok (.invokestatic i, 3)) (hl : zv_lk K MT (fun k => Nat.beq k 1 || Nat.beq k 4) i = some mm2)
    (hc : (Nat.beq va.length mm2.2.2.2.2.1 && (Nat.ble S.length 8 && S.all zv_n1)) = true) (hr1 : rm2.1 + 1 ≤ rm.1) (hr2 : 8 + (mm2.2.2.1 + 11) + rm2.2 ≤ rm.2) (hs : S0 = va.reverse ++ S)
    (k : good (pc + 3) L (zv_ro r S) F' G') : good pc L S0 F G := by
  rw [Bool.and_eq_true] at hc
  rw [hs]
  exact zv_inv1 (va := va) hB hok hd hl hc.1 hc.2 (by rw [Nat.ble_eq_true_of_le hr1, Nat.ble_eq_true_of_le hr2]; rfl) ⟨rfl, rfl, rfl⟩ (fun r2 F2 G2 h => by obtain ⟨rfl, rfl, rfl⟩ := h; exact k)
end ZVCALLS
end
section
/-! System.arraycopy over names, from place 0 to place 0. -/
def zv_cpy (g0 g : Int → Int) (m : Int) : Int → Int := fun q => if q < m then g0 q else g q
section ZVACP
variable {cl : List vw_C} {FT : Nat → Nat → FieldType} {KXf : (Nat → Nat) → Nat → State → Heap → Prop} {TBL : List Cond} {MT : List zM} {y : zNL} {mm : zM} {K : zK} {rm : Nat × Nat} {good : Nat → List zNV → List zNV → List zNV → List (Int → Int) → Prop}
variable {pc : Nat} {L : List zNV} {F : List zNV} {G : List (Int → Int)}
theorem zv_acp (hB : zv_B cl FT KXf TBL MT y mm K rm good) {i x a c n n0 j j0 : Nat} {m : Int} {g g0 : Int → Int} (hd : decode mm.2.1 pc = .ok (.invokestatic i, 3)) (hl : (i, 8, x) ∈ k_LK K) (ha : zv_ar y c = some (0, n, j)) (ha0 : zv_ar y a = some (0, n0, j0)) (hg1 : zv_l G j = some g) (hg0 : zv_l G j0 = some g0) (hm0 : 0 ≤ m) (hm1 : m ≤ n) (hm2 : m ≤ n0) (hrm : 1 ≤ rm.1 ∧ 60 ≤ rm.2)
    (k : good (pc + 3) L [] F (zv_s G j (zv_cpy g0 g m))) : good pc L [.inl m, .inl 0, .inr c, .inl 0, .inr a] F G := by
  obtain ⟨p, l, e, R, s, mi, args, below, meth, cc, Q, OB, D, DA, sz, A, H0, Ts, cells, slots, ⟨hx, hb, hml, hD, hKS⟩, ⟨hsz, hXp, hX, hR1, hR2, -⟩, ⟨hwf, hinj, hge, hOB⟩, hg⟩ := hB
  refine (hg _ _ _ _ _).mpr fun H locs ls stk h1 h2 h3 h4 h5 => ?_
  obtain ⟨w1, s1, rfl, ⟨zn, rfl, en⟩, w2, s2, rfl, ⟨zd, rfl, ed⟩, w3, s3, rfl, hw3, w4, s4, rfl, ⟨zs, rfl, es⟩, w5, s5, rfl, hw5, hs5⟩ := h5
  have hw3 : w3 = .ref (A c) := zv_w_r hw3 (zv_ar_lt hwf ha)
  have hw5 : w5 = .ref (A a) := zv_w_r hw5 (zv_ar_lt hwf ha0)
  have hs5 : s5 = [] := hs5
  subst hw3; subst hw5; subst hs5
  have hmA := zv_ar_ok ha
  have hmA0 := zv_ar_ok ha0
  obtain ⟨f, g2, x1, x2, x3⟩ := h1.2.2.2 _ hmA
  obtain ⟨f0, g3, y1, y2, y3⟩ := h1.2.2.2 _ hmA0
  have x1 : H[A c]? = some (arrV (DA 0) n f) := x1
  have y1 : H[A a]? = some (arrV (DA 0) n0 f0) := y1
  have x2 : zv_l G j = some g2 := x2
  have y2 : zv_l G j0 = some g3 := y2
  rw [hg1] at x2
  rw [hg0] at y2
  cases x2
  cases y2
  have x3 : ∀ q : Nat, q < n → ∃ x : Int32, f q = .int x ∧ x.toInt = g q := x3
  have y3 : ∀ q : Nat, q < n0 → ∃ x : Int32, f0 q = .int x ∧ x.toInt = g0 q := y3
  obtain ⟨a1, a2, a3, a4⟩ := zv_wfA hwf hmA
  have a1 : c < n_N y := a1
  have t1 : H[A c]? = some (arrV (DA 0) n (fun q => .int (z_int (f q)))) := by
    rw [x1]
    exact congrArg some (z_arrC (fun q hq => by obtain ⟨z, z1, -⟩ := x3 q hq; show f q = .int (z_int (f q)); rw [z1]; rfl))
  have t0 : H[A a]? = some (arrV (DA 0) n0 (fun q => .int (z_int (f0 q)))) := by
    rw [y1]
    exact congrArg some (z_arrC (fun q hq => by obtain ⟨z, z1, -⟩ := y3 q hq; show f0 q = .int (z_int (f0 q)); rw [z1]; rfl))
  obtain ⟨ww1, ww2, ww3, ww4⟩ := (hKS.2.2.1 _ hl).2.1 rfl
  have hls : mm.2.2.1 = ls.size := by obtain ⟨lv, z1, _⟩ := h4; exact z1.1.symm
  refine z_cprow hx hb (by rw [hml, hls]) hD ww1 ww2 ww3 ww4 t0 t1 es ed (by omega) (by omega) (by omega) (by omega) (by show 0 + 60 ≤ _; omega) hd fun H1 LL hLL e1 e2 e3 => ?_
  have hne : ∀ b, b < n_N y → b ≠ c → A b ≠ A c := fun b hb1 hb2 hb3 => hb2 (hinj _ _ hb1 a1 hb3)
  refine (hg _ _ _ _ _).mp k H1 _ ls [] ⟨fun q hq => ?_, fun q hq => ?_, fun q hq => ?_, fun q hq => ?_⟩ (zv_frm_tr h2 ⟨e2, fun b hb1 => e3 b (fun e => hb1 c a1 e.symm), fun q hq r' k2 w hr hk2 hk3 hk4 => ?_⟩) (z_S_app h3 e2 e3 (hge _ a1) hLL) h4 rfl
  · obtain ⟨w1, w2, w3⟩ := zv_wfO hwf hq
    obtain ⟨r', V', y1, y2⟩ := h1.1 q hq
    exact ⟨r', V', y1, y2.kept (e3 _ (hne _ w1 (w2 _ hmA)))⟩
  · obtain ⟨r', x', f', y1, y2, y3, y4⟩ := h1.2.1 q hq
    exact ⟨r', x', f', y1, y2, z_sl_kept y3 (e3 _ (hne _ (zv_wfIn hwf hq).1 (fun e => a3 _ hq e.symm))), y4⟩
  · obtain ⟨r', y1, y2, y3⟩ := h1.2.2.1 q hq
    exact ⟨r', y1, y2, z_sl_kept y3 (e3 _ (hne _ (zv_wfR hwf hq).1 (fun e => a4 _ hq e.symm)))⟩
  · obtain ⟨f2, g2, u1, u2, u3⟩ := h1.2.2.2 q hq
    obtain ⟨w1, w2, w3, w4⟩ := zv_wfA hwf hq
    by_cases e : q.1 = c
    · obtain ⟨v1, v2⟩ := a2 q hq
      obtain ⟨v3, v4⟩ := v2 e.symm
      have v5 : j = q.2.2.2 := v1.mpr e.symm
      have v3 : 0 = q.2.1 := v3
      have v4 : n = q.2.2.1 := v4
      refine ⟨_, _, by rw [e, ← v3, ← v4]; exact e1, by rw [← v5]; exact zv_ls_eq hg1, fun i hi => ?_⟩
      rw [← v4] at hi
      rw [← v3]
      obtain ⟨z, z1, z2⟩ := x3 i hi
      by_cases ei : (i : Int) < m
      · obtain ⟨z', z1', z2'⟩ := y3 i (by omega)
        refine ⟨z', ?_, ?_⟩
        · show Value.int (if 0 ≤ i ∧ i < 0 + zn.toInt.toNat then z_int (f0 (0 + (i - 0))) else z_int (f i)) = .int z'
          rw [if_pos (by omega), Nat.zero_add, Nat.sub_zero, z1']
          rfl
        · show z'.toInt = if (i : Int) < m then g0 i else g i
          rw [if_pos ei]; exact z2'
      · refine ⟨z, ?_, ?_⟩
        · show Value.int (if 0 ≤ i ∧ i < 0 + zn.toInt.toNat then z_int (f0 (0 + (i - 0))) else z_int (f i)) = .int z
          rw [if_neg (by omega), z1]
          rfl
        · show z.toInt = if (i : Int) < m then g0 i else g i
          rw [if_neg ei]; exact z2
    · refine ⟨f2, g2, by rw [e3 _ (hne _ w1 e)]; exact u1, ?_, u3⟩
      rw [zv_ls_ne (fun h7 => e ((w2 _ hmA).1.mp h7.symm))]
      exact u2
  · exact z_sl_kept hk4 (e3 _ (hne _ (zv_wfO hwf hq).1 ((zv_wfO hwf hq).2.1 _ hmA)))
end ZVACP

def zi_let {α : Type} (e : Int) (k : Int → Option α) : Option α := k e
theorem zi_letp {α : Type} {e : Int} {k : Int → Option α} {o : α} (h : zi_let e k = some o) : ∃ v, e = v ∧ k v = some o := ⟨e, rfl, h⟩
def zi_fu : Nat := 1000000000000000000
theorem zi_rk {α β : Type} {P : α → Prop} {w o : β} {q : α ⊕ β} (h : Sum.inr w = q) (hK : Sum.elim P (fun w => w = o) q) : w = o := by
  subst h
  exact hK
theorem zi_sl {α β γ : Type} {f : α → γ} {g : β → γ} {e : α} {o : γ} (h : Sum.elim f g (Sum.inl e) = o) : f e = o := h
/-- the same, or nothing known -/
def zv_wl : List zNV → List zNV → Prop
  | [], [] => True
  | v :: L', w :: L => (zv_is v → v = w) ∧ zv_wl L' L
  | _, _ => False
theorem zv_wl_at : ∀ {L' L : List zNV} {i : Nat} {v : zNV}, zv_wl L' L → zv_l L' i = some v → zv_is v → zv_l L i = some v
  | [], _, _, _, _, h, _ => by cases h
  | _ :: _, [], _, _, h, _, _ => absurd h (fun h => h)
  | u :: L', w :: L, 0, v, h, h1, h2 => by
    have e : u = v := Option.some.inj h1
    subst e
    show some w = some u
    rw [h.1 h2]
  | u :: L', w :: L, i + 1, v, h, h1, h2 => zv_wl_at (L' := L') (L := L) (i := i) h.2 h1 h2
theorem zv_wl_to : ∀ {L' L : List zNV} {i : Nat} {w : zNV}, zv_wl L' L → zv_l L i = some w → ∃ v, zv_l L' i = some v ∧ (zv_is v → v = w)
  | _, [], _, _, _, h => by cases h
  | [], _ :: _, _, _, h, _ => absurd h (fun h => h)
  | u :: L', x :: L, 0, w, h, h1 => by
    have e : x = w := Option.some.inj h1
    subst e
    exact ⟨u, rfl, h.1⟩
  | u :: L', x :: L, i + 1, w, h, h1 => zv_wl_to (L' := L') (L := L) (i := i) h.2 h1
section ZVWK
variable {cl : List vw_C} {FT : Nat → Nat → FieldType} {KXf : (Nat → Nat) → Nat → State → Heap → Prop} {TBL : List Cond} {MT : List zM} {y : zNL} {mm : zM} {K : zK} {rm : Nat × Nat} {good : Nat → List zNV → List zNV → List zNV → List (Int → Int) → Prop}
variable {pc : Nat} {L L' S : List zNV} {F F' : List zNV} {G : List (Int → Int)}
theorem zv_wk (hB : zv_B cl FT KXf TBL MT y mm K rm good) (hw : zv_wl L' L) (hf : zv_wl F' F) (k : good pc L' S F' G) : good pc L S F G := by
  obtain ⟨p, l, e, R, s, m, args, below, meth, c, Q, OB, D, DA, sz, A, H0, Ts, cells, slots, ⟨hx, hb, hml, hD, hKS⟩, -, -, hg⟩ := hB
  refine (hg _ _ _ _ _).mpr fun H locs ls stk h1 h2 h3 h4 h5 => ?_
  obtain ⟨lv, a1, a2, a3⟩ := h4
  refine (hg _ _ _ _ _).mp k H locs ls stk ⟨h1.1, fun q hq => ?_, h1.2.2.1, h1.2.2.2⟩ h2 h3 ⟨lv, a1, a2, fun i v hi hv => a3 i v (zv_wl_at hw hi hv) hv⟩ h5
  obtain ⟨r, w, f, c1, c2, c3, c4, c5⟩ := h1.2.1 q hq
  obtain ⟨v, v1, v2⟩ := zv_wl_to hf c4
  exact ⟨r, w, v, c1, c2, c3, v1, fun his => by have e := v2 his; subst e; exact c5 his⟩
end ZVWK
end
section
/-! What the functions' operators are on numbers that are not below 0. -/
theorem zi_of {a : Int} (h1 : -2147483648 ≤ a) (h2 : a ≤ 2147483647) : (Int32.ofInt a).toInt = a := by
  rw [Int32.toInt_ofInt]
  exact z_bmod h1 h2
theorem zi_nat {a : Int} (h1 : 0 ≤ a) (h2 : a ≤ 2147483647) : (Int32.ofInt a).toBitVec.toNat = a.toNat := by
  have e := zi_of (a := a) (by omega) h2
  have := z_nat (x := Int32.ofInt a) (by rw [e]; exact h1)
  rw [e] at this
  omega
theorem zi_and_nat {a b : Int} (h1 : 0 ≤ a) (h2 : a ≤ 2147483647) (k1 : 0 ≤ b) (k2 : b ≤ 2147483647) : zi_and a b = ((a.toNat &&& b.toNat : Nat) : Int) := by
  have e : (Int32.ofInt a &&& Int32.ofInt b).toBitVec.toNat = a.toNat &&& b.toNat := by rw [z_and_nat, zi_nat h1 h2, zi_nat k1 k2]
  have l : a.toNat &&& b.toNat ≤ a.toNat := Nat.and_le_left
  unfold zi_and zi_ev
  show (Int32.ofInt a &&& Int32.ofInt b).toInt = _
  rw [z_ofnat (by rw [e]; omega), e]
theorem zi_or_lt {a b : Nat} (h : a < 2147483648) (k : b < 2147483648) : a ||| b < 2147483648 := Nat.or_lt_two_pow (n := 31) h k
theorem zi_xor_lt {a b : Nat} (h : a < 2147483648) (k : b < 2147483648) : a ^^^ b < 2147483648 := Nat.xor_lt_two_pow (n := 31) h k
theorem zi_or_nat {a b : Int} (h1 : 0 ≤ a) (h2 : a ≤ 2147483647) (k1 : 0 ≤ b) (k2 : b ≤ 2147483647) : zi_or a b = ((a.toNat ||| b.toNat : Nat) : Int) := by
  have e : (Int32.ofInt a ||| Int32.ofInt b).toBitVec.toNat = a.toNat ||| b.toNat := by rw [z_or_nat, zi_nat h1 h2, zi_nat k1 k2]
  have l := zi_or_lt (a := a.toNat) (b := b.toNat) (by omega) (by omega)
  unfold zi_or zi_ev
  show (Int32.ofInt a ||| Int32.ofInt b).toInt = _
  rw [z_ofnat (by rw [e]; omega), e]
theorem zi_xor_nat {a b : Int} (h1 : 0 ≤ a) (h2 : a ≤ 2147483647) (k1 : 0 ≤ b) (k2 : b ≤ 2147483647) : zi_xor a b = ((a.toNat ^^^ b.toNat : Nat) : Int) := by
  have e : (Int32.ofInt a ^^^ Int32.ofInt b).toBitVec.toNat = a.toNat ^^^ b.toNat := by rw [z_xor_nat, zi_nat h1 h2, zi_nat k1 k2]
  have l := zi_xor_lt (a := a.toNat) (b := b.toNat) (by omega) (by omega)
  unfold zi_xor zi_ev
  show (Int32.ofInt a ^^^ Int32.ofInt b).toInt = _
  rw [z_ofnat (by rw [e]; omega), e]
theorem zi_amt {i : Int} (h1 : 0 ≤ i) (h2 : i < 32) : ((Int32.ofInt i &&& 31).toBitVec.smod 32).toNat = i.toNat := by
  obtain ⟨k, k1, k2, k3⟩ := z_amt (Int32.ofInt i)
  have e := zi_of (a := i) (by omega) (by omega)
  have := k3 (by rw [e]; exact h1) (by rw [e]; exact h2)
  rw [e] at this
  rw [k2]; omega
theorem zi_shr_eq {a i : Int} (h1 : -2147483648 ≤ a) (h2 : a ≤ 2147483647) (k1 : 0 ≤ i) (k2 : i < 32) : zi_shr a i = a / ((2 ^ i.toNat : Nat) : Int) := by
  unfold zi_shr zi_ev
  show (Int32.ofInt a >>> (Int32.ofInt i &&& 31)).toInt = _
  rw [z_shr_val (zi_amt k1 k2), zi_of h1 h2]
/-- the bit at a place -/
def zi_tb (t i : Int) : Bool := t.toNat.testBit i.toNat
theorem zi_bit {t i : Int} (h1 : 0 ≤ t) (h2 : t ≤ 2147483647) (k1 : 0 ≤ i) (k2 : i < 32) : zi_and (zi_shr t i) 1 = if zi_tb t i then 1 else 0 := by
  have hp : (0 : Int) < ((2 ^ i.toNat : Nat) : Int) := by have := Nat.two_pow_pos i.toNat; omega
  have e := zi_shr_eq (a := t) (i := i) (by omega) h2 k1 k2
  have q1 : 0 ≤ t / ((2 ^ i.toNat : Nat) : Int) := Int.ediv_nonneg h1 (by omega)
  have q2 : t / ((2 ^ i.toNat : Nat) : Int) ≤ t := Int.ediv_le_self _ h1
  rw [e, zi_and_nat q1 (by omega) (by decide) (by decide)]
  have e2 : (t / ((2 ^ i.toNat : Nat) : Int)).toNat = t.toNat / 2 ^ i.toNat := by
    have h : t = (t.toNat : Int) := by omega
    rw [h, ← Int.natCast_ediv, Int.toNat_natCast, Int.toNat_natCast]
  rw [e2]
  unfold zi_tb
  have e3 : (1 : Int).toNat = 1 := rfl
  rw [e3, Nat.and_one_is_mod, Nat.testBit_eq_decide_div_mod_eq]
  by_cases hm : t.toNat / 2 ^ i.toNat % 2 = 1
  · rw [if_pos (by simpa using hm), hm]; rfl
  · have : t.toNat / 2 ^ i.toNat % 2 = 0 := by omega
    rw [if_neg (by simpa using hm), this]; rfl
theorem zi_shl1 {i : Int} (k1 : 0 ≤ i) (k2 : i < 31) : zi_shl 1 i = ((2 ^ i.toNat : Nat) : Int) := by
  have h : ∀ k : Nat, k < 31 → zi_shl 1 (k : Int) = ((2 ^ k : Nat) : Int) := by decide +kernel
  have := h i.toNat (by omega)
  rwa [show ((i.toNat : Nat) : Int) = i by omega] at this
theorem zi_pow_le {i : Int} (k1 : 0 ≤ i) (k2 : i < 31) : (2 ^ i.toNat : Nat) ≤ 1073741824 := by
  have : 2 ^ i.toNat ≤ 2 ^ 30 := Nat.pow_le_pow_right (by omega) (by omega)
  exact this
theorem zi_set {t i : Int} (h1 : 0 ≤ t) (h2 : t ≤ 2147483647) (k1 : 0 ≤ i) (k2 : i < 31) : zi_or t (zi_shl 1 i) = ((t.toNat ||| 2 ^ i.toNat : Nat) : Int) := by
  have hp := zi_pow_le k1 k2
  rw [zi_shl1 k1 k2]
  generalize 2 ^ i.toNat = p at hp ⊢
  rw [zi_or_nat h1 h2 (by omega) (by omega), Int.toNat_natCast]
/-- what is set -/
theorem zi_set_tb {t i : Int} (h1 : 0 ≤ t) (h2 : t ≤ 2147483647) (k1 : 0 ≤ i) (k2 : i < 31) (j : Int) (hj : 0 ≤ j) : zi_tb (zi_or t (zi_shl 1 i)) j = (zi_tb t j || decide (j = i)) := by
  rw [zi_set h1 h2 k1 k2]
  unfold zi_tb
  rw [Int.toNat_natCast, Nat.testBit_or, Nat.testBit_two_pow]
  congr 1
  by_cases h : j = i
  · rw [h]; simp
  · rw [decide_eq_false h, decide_eq_false (by omega)]
theorem zi_not {a : Int} (h1 : 0 ≤ a) (h2 : a ≤ 2147483647) : zi_xor a (-1) = -1 - a := by
  unfold zi_xor zi_ev
  show (Int32.ofInt a ^^^ Int32.ofInt (-1)).toInt = _
  have k := z_xor_ok (a := (a, a)) (b := (-1, -1)) (x := Int32.ofInt a) (y := Int32.ofInt (-1)) (by rw [z_in, zi_of (by omega) h2]; exact ⟨Int.le_refl _, Int.le_refl _⟩) (by rw [z_in, zi_of (by decide) (by decide)]; exact ⟨Int.le_refl _, Int.le_refl _⟩)
  have e : z_xor (a, a) (-1, -1) = (-1 - a, -1 - a) := by
    unfold z_xor
    rw [if_neg (by intro h; exact absurd h.2.1 (by decide)), if_pos ⟨rfl, rfl⟩]
  rw [e] at k
  have k1 : -1 - a ≤ _ := k.1
  have k2 : _ ≤ -1 - a := k.2
  omega
/-- what is taken away -/
theorem zi_clr {t i : Int} (h1 : 0 ≤ t) (h2 : t ≤ 2147483647) (k1 : 0 ≤ i) (k2 : i < 31) : 0 ≤ zi_and t (zi_xor (zi_shl 1 i) (-1)) ∧ zi_and t (zi_xor (zi_shl 1 i) (-1)) ≤ t ∧ ∀ j : Int, 0 ≤ j → j < 31 → zi_tb (zi_and t (zi_xor (zi_shl 1 i) (-1))) j = (zi_tb t j && decide (j ≠ i)) := by
  have hp := zi_pow_le k1 k2
  have htb : ∀ j : Nat, (2 ^ i.toNat).testBit j = decide (i.toNat = j) := fun j => Nat.testBit_two_pow
  rw [zi_shl1 k1 k2]
  generalize 2 ^ i.toNat = p at hp htb ⊢
  rw [zi_not (by omega) (by omega)]
  have hn : (Int32.ofInt (-1 - (p : Int))).toBitVec.toNat = 2 ^ 32 - (p + 1) := by
    have e := zi_of (a := -1 - (p : Int)) (by omega) (by omega)
    have lt := (Int32.ofInt (-1 - (p : Int))).toBitVec.isLt
    have e2 : (Int32.ofInt (-1 - (p : Int))).toBitVec.toInt = -1 - (p : Int) := e
    rw [BitVec.toInt_eq_toNat_cond] at e2
    generalize (Int32.ofInt (-1 - (p : Int))).toBitVec.toNat = w at lt e2 ⊢
    split at e2 <;> omega
  have e : (Int32.ofInt t &&& Int32.ofInt (-1 - (p : Int))).toBitVec.toNat = t.toNat &&& (2 ^ 32 - (p + 1)) := by rw [z_and_nat, zi_nat h1 h2, hn]
  have l : t.toNat &&& (2 ^ 32 - (p + 1)) ≤ t.toNat := Nat.and_le_left
  have v : zi_and t (-1 - (p : Int)) = ((t.toNat &&& (2 ^ 32 - (p + 1)) : Nat) : Int) := by
    unfold zi_and zi_ev
    show (Int32.ofInt t &&& Int32.ofInt (-1 - (p : Int))).toInt = _
    rw [z_ofnat (by rw [e]; omega), e]
  rw [v]
  have htb2 : ∀ j : Nat, j < 32 → (2 ^ 32 - (p + 1)).testBit j = !decide (i.toNat = j) := fun j hj => by
    rw [Nat.testBit_two_pow_sub_succ (by omega), htb, decide_eq_true hj]; simp
  generalize 2 ^ 32 - (p + 1) = w at l htb2 ⊢
  refine ⟨by omega, by omega, fun j hj hj2 => ?_⟩
  unfold zi_tb
  rw [Int.toNat_natCast, Nat.testBit_and, htb2 _ (by omega)]
  congr 1
  by_cases h : j = i
  · rw [h]; simp
  · rw [decide_eq_false (show ¬ i.toNat = j.toNat by omega), decide_eq_true (show j ≠ i from h)]; rfl
theorem zi_div_eq {a b : Int} (h1 : 0 ≤ a) (h2 : a ≤ 2147483647) (k1 : 0 < b) (k2 : b ≤ 2147483647) : zi_div a b = a / b :=
  zv_div_eq (zi_of (by omega) h2) (zi_of (by omega) k2) h1 k1
theorem zi_rem_eq {a b : Int} (h1 : 0 ≤ a) (h2 : a ≤ 2147483647) (k1 : 0 < b) (k2 : b ≤ 2147483647) : zi_rem a b = a % b :=
  zv_rem_eq (zi_of (by omega) h2) (zi_of (by omega) k2) h1 k1
/-! Going on: what is answered, and what holds of it. -/
def zh_ok {α : Type} (x : Option α) (P : α → Prop) : Prop := ∃ o, x = some o ∧ P o
theorem zh_ret {α : Type} {a : α} {P : α → Prop} (h : P a) : zh_ok (some a) P := ⟨a, rfl, h⟩
theorem zh_bind {α β : Type} {x : Option α} {f : α → Option β} {Q : α → Prop} {P : β → Prop} (h : zh_ok x Q) (k : ∀ o, Q o → zh_ok (f o) P) : zh_ok (x.bind f) P := by
  obtain ⟨o, rfl, hq⟩ := h
  exact k o hq
theorem zh_cond {α : Type} {b : Bool} {x : Option α} {P : α → Prop} (h : b = true) (k : zh_ok x P) : zh_ok (cond b x none) P := by
  rw [h]; exact k
theorem zh_mono {α : Type} {x : Option α} {P Q : α → Prop} (h : zh_ok x P) (k : ∀ o, P o → Q o) : zh_ok x Q := by
  obtain ⟨o, e, hp⟩ := h
  exact ⟨o, e, k o hp⟩
theorem zi_ix_of {a : Int} {n : Nat} (h1 : 0 ≤ a) (h2 : a < n) : zi_ix a n = true := by
  unfold zi_ix
  rw [decide_eq_true h1, decide_eq_true h2]; rfl
theorem zi_ne_of {a : Int} (h : a ≠ 0) : zi_ne a = true := by
  unfold zi_ne
  rw [decide_eq_false h]; rfl
theorem zi_bo_of {a : Int} (h1 : 0 ≤ a) (h2 : a ≤ 1) : zi_bo a = true := by
  unfold zi_bo
  rw [decide_eq_true h1, decide_eq_true h2]; rfl
end
section
/-! String constants over named cells. -/
section ZVSTR
variable {cl : List vw_C} {FT : Nat → Nat → FieldType} {own own2 tx : String} {k1 k2 n : Nat} {TBL : List Cond} {MT : List zM} {y : zNL} {mm : zM} {K : zK} {rm : Nat × Nat} {good : Nat → List zNV → List zNV → List zNV → List (Int → Int) → Prop}
variable {pc : Nat} {L S : List zNV} {F : List zNV} {G : List (Int → Int)}
theorem zv_ldcs (hB : zv_B cl FT (zs_KX own tx k1 n mm.1.cls k2) TBL MT y mm K rm good) (hd : decode mm.2.1 pc = .ok (.ldc k2, 2)) (k : good (pc + 2) L (.inr 902 :: S) F G) : good pc L S F G := by
  obtain ⟨p, l, e, R, s, m, args, below, meth, c, Q, OB, D, DA, sz, A, H0, Ts, cells, slots, ⟨hx, hb, hml, hD, hKS⟩, ⟨hsz, hXp, hX, -⟩, ⟨hwf, hinj, hge, hOB⟩, hg⟩ := hB
  refine (hg _ _ _ _ _).mpr fun H locs ls stk h1 h2 h3 h4 h5 => ?_
  obtain ⟨-, f, g1, -⟩ := hX
  exact va_ldcS hx hb hD.2.1 g1 hd ((hg _ _ _ _ _).mp k H locs ls _ h1 h2 h3 h4 ⟨_, _, rfl, (congrArg Value.ref (hOB 2)).symm, h5⟩)
theorem zs_X0 {OB : Nat → Nat} {sz : Nat} {s : State} {H0 H : Heap} {locs : List Loc} (hX : zs_KX own tx k1 n own2 k2 OB sz s H0) (h3 : va_S (fun q => sz ≤ q) H0 H locs) : zs_K3 own2 tx k2 n OB sz s H := zs_K3_p.2.1 s H0 H hX.2 h3.1 h3.2.1
end ZVSTR
end
section
/-! The place of a letter in a string constant. -/
section ZVSTRN
variable {cl : List vw_C} {FT : Nat → Nat → FieldType} {own own2 tx : String} {k1 k2 n : Nat} {TBL : List Cond} {MT : List zM} {y : zNL} {mm : zM} {K : zK} {rm : Nat × Nat} {good : Nat → List zNV → List zNV → List zNV → List (Int → Int) → Prop}
variable {pc : Nat} {L S : List zNV} {F : List zNV} {G : List (Int → Int)}
theorem zkt_stat (hB : zv_B cl FT (zs_KX own tx k1 n own2 k2) TBL MT y mm K rm good) {i : Nat} (hw : Cond.fieldLink mm.1.cls i "java/lang/String" "COMPACT_STRINGS" "Z" ∈ TBL) (hd : decode mm.2.1 pc = .ok (.getstatic i, 3)) (k : good (pc + 3) L (.inl 1 :: S) F G) : good pc L S F G := by
  obtain ⟨p, l, e, R, s, m, args, below, meth, c, Q, OB, D, DA, sz, A, H0, Ts, cells, slots, ⟨hx, hb, hml, hD, hKS⟩, ⟨hsz, hXp, hX, -⟩, ⟨hwf, hinj, hge, hOB⟩, hg⟩ := hB
  refine (hg _ _ _ _ _).mpr fun H locs ls stk h1 h2 h3 h4 h5 => ?_
  obtain ⟨f, g1, g2, g3, g4, g5, ⟨cf, kf, fi, fd, a, cell, q1, q2, q3, q4, q5, q6, q7, q8⟩, g7⟩ := zs_X0 hX h3
  exact W.gets hx hb hD.2.1 (hD.1 _ (hKS.2.2.2.2.2.1 _ hw).1) q1 q2 q3 q4 q5 (fun e => by rw [e] at q6; cases q6) q7 rfl hd ((hg _ _ _ _ _).mp k H locs ls _ h1 h2 h3 h4 ⟨_, _, rfl, ⟨1, rfl, rfl⟩, h5⟩)
theorem zkt_coder (hB : zv_B cl FT (zs_KX own tx k1 n own2 k2) TBL MT y mm K rm good) {i : Nat} (hw : Cond.fieldLink mm.1.cls i "java/lang/String" "coder" "B" ∈ TBL) (hd : decode mm.2.1 pc = .ok (.getfield i, 3)) (k : good (pc + 3) L (.inl 0 :: S) F G) : good pc L (.inr 902 :: S) F G := by
  obtain ⟨p, l, e, R, s, m, args, below, meth, c, Q, OB, D, DA, sz, A, H0, Ts, cells, slots, ⟨hx, hb, hml, hD, hKS⟩, ⟨hsz, hXp, hX, -⟩, ⟨hwf, hinj, hge, hOB⟩, hg⟩ := hB
  refine (hg _ _ _ _ _).mpr fun H locs ls stk h1 h2 h3 h4 h5 => ?_
  obtain ⟨f, g1, g2, ⟨cf, kf, fi, fd, cell, q1, q2, q3, q4, q5, q6⟩, g4, g5, g6, g7⟩ := zs_X0 hX h3
  obtain ⟨w, st, rfl, hw2, h6⟩ := h5
  have hw2 : w = .ref (A (900 + 2)) := hw2
  rw [hOB 2] at hw2
  subst hw2
  exact W.getf hx hb hD.2.1 (hD.1 _ (hKS.2.2.2.2.2.1 _ hw).1) q1 q2 q3 q4 (v := .int 0) q5 rfl rfl hd ((hg _ _ _ _ _).mp k H locs ls _ h1 h2 h3 h4 ⟨_, _, rfl, ⟨0, rfl, rfl⟩, h6⟩)
theorem zkt_value (hB : zv_B cl FT (zs_KX own tx k1 n own2 k2) TBL MT y mm K rm good) {i : Nat} (hw : Cond.fieldLink mm.1.cls i "java/lang/String" "value" "[B" ∈ TBL) (hd : decode mm.2.1 pc = .ok (.getfield i, 3)) (k : good (pc + 3) L (.inr 903 :: S) F G) : good pc L (.inr 902 :: S) F G := by
  obtain ⟨p, l, e, R, s, m, args, below, meth, c, Q, OB, D, DA, sz, A, H0, Ts, cells, slots, ⟨hx, hb, hml, hD, hKS⟩, ⟨hsz, hXp, hX, -⟩, ⟨hwf, hinj, hge, hOB⟩, hg⟩ := hB
  refine (hg _ _ _ _ _).mpr fun H locs ls stk h1 h2 h3 h4 h5 => ?_
  obtain ⟨f, g1, g2, g3, ⟨cf, kf, fi, fd, cell, q1, q2, q3, q4, q5, q6⟩, g5, g6, g7⟩ := zs_X0 hX h3
  obtain ⟨w, st, rfl, hw2, h6⟩ := h5
  have hw2 : w = .ref (A (900 + 2)) := hw2
  rw [hOB 2] at hw2
  subst hw2
  exact W.getf hx hb hD.2.1 (hD.1 _ (hKS.2.2.2.2.2.1 _ hw).1) q1 q2 q3 q4 (v := .ref (OB 3)) q5 rfl rfl hd ((hg _ _ _ _ _).mp k H locs ls _ h1 h2 h3 h4 ⟨_, _, rfl, (congrArg Value.ref (hOB 3)).symm, h6⟩)
theorem zkt_len (hB : zv_B cl FT (zs_KX own tx k1 n own2 k2) TBL MT y mm K rm good) (hn : n < 2147483648) (hd : decode mm.2.1 pc = .ok (.arraylength, 1)) (k : good (pc + 1) L (.inl n :: S) F G) : good pc L (.inr 903 :: S) F G := by
  obtain ⟨p, l, e, R, s, m, args, below, meth, c, Q, OB, D, DA, sz, A, H0, Ts, cells, slots, ⟨hx, hb, hml, hD, hKS⟩, ⟨hsz, hXp, hX, -⟩, ⟨hwf, hinj, hge, hOB⟩, hg⟩ := hB
  refine (hg _ _ _ _ _).mpr fun H locs ls stk h1 h2 h3 h4 h5 => ?_
  obtain ⟨f, g1, g2, g3, g4, ⟨cell, q1, q2, q3, q4, q5, q6, q7⟩, g6, g7⟩ := zs_X0 hX h3
  obtain ⟨w, st, rfl, hw2, h6⟩ := h5
  have hw2 : w = .ref (A (900 + 3)) := hw2
  rw [hOB 3] at hw2
  subst hw2
  exact W.alen (n := Int32.ofNat n) hx hb q1 q2 q5 rfl rfl hd ((hg _ _ _ _ _).mp k H locs ls _ h1 h2 h3 h4 ⟨_, _, rfl, ⟨_, rfl, Int32.toInt_ofNat_of_lt (by omega)⟩, h6⟩)
theorem zkt_bald (hB : zv_B cl FT (zs_KX own tx k1 n own2 k2) TBL MT y mm K rm good) {a : Int} (ha1 : 0 ≤ a) (ha2 : a < n) (hd : decode mm.2.1 pc = .ok (.baload, 1)) (k : good (pc + 1) L (.inl (zs_by a.toNat).toInt :: S) F G) : good pc L (.inl a :: .inr 903 :: S) F G := by
  obtain ⟨p, l, e, R, s, m, args, below, meth, c, Q, OB, D, DA, sz, A, H0, Ts, cells, slots, ⟨hx, hb, hml, hD, hKS⟩, ⟨hsz, hXp, hX, -⟩, ⟨hwf, hinj, hge, hOB⟩, hg⟩ := hB
  refine (hg _ _ _ _ _).mpr fun H locs ls stk h1 h2 h3 h4 h5 => ?_
  obtain ⟨f, g1, g2, g3, g4, ⟨cell, q1, q2, q3, q4, q5, q6, q7⟩, g6, g7⟩ := zs_X0 hX h3
  obtain ⟨w0, st0, rfl, ⟨x, rfl, rfl⟩, w, st, rfl, hw2, h6⟩ := h5
  have hw2 : w = .ref (A (900 + 3)) := hw2
  rw [hOB 3] at hw2
  subst hw2
  obtain ⟨b1, b2⟩ := zv_ix ha1 ha2
  have b3 : x.toNatClampNeg < n := b2
  have v1 := g7 _ b3
  have hin' : ¬ (x < 0 ∨ cell.slots.size ≤ x.toNatClampNeg) := by
    intro q
    rcases q with q | q
    · exact b1 (Or.inl q)
    · omega
  exact W.bald (v := .int (zs_by x.toInt.toNat)) hx hb q1 q2 q3 hin' (by rw [q6 _ b3, v1]; rfl) rfl rfl hd ((hg _ _ _ _ _).mp k H locs ls _ h1 h2 h3 h4 ⟨_, _, rfl, ⟨_, rfl, rfl⟩, h6⟩)
theorem zkt_i2c (hB : zv_B cl FT (zs_KX own tx k1 n own2 k2) TBL MT y mm K rm good) {a : Int} (hd : decode mm.2.1 pc = .ok (.i2c, 1)) (k : ∀ v : Int, good (pc + 1) L (.inl v :: S) F G) : good pc L (.inl a :: S) F G := by
  obtain ⟨p, l, e, R, s, m, args, below, meth, c, Q, OB, D, DA, sz, A, H0, Ts, cells, slots, ⟨hx, hb, hml, hD, hKS⟩, ⟨hsz, hXp, hX, -⟩, ⟨hwf, hinj, hge, hOB⟩, hg⟩ := hB
  refine (hg _ _ _ _ _).mpr fun H locs ls stk h1 h2 h3 h4 h5 => ?_
  obtain ⟨w, st, rfl, ⟨x, rfl, hx2⟩, h6⟩ := h5
  exact lv_i2c hx hb hd rfl ((hg _ _ _ _ _).mp (k _) H locs ls _ h1 h2 h3 h4 ⟨_, _, rfl, ⟨_, rfl, rfl⟩, h6⟩)
theorem zkt_i2b (hB : zv_B cl FT (zs_KX own tx k1 n own2 k2) TBL MT y mm K rm good) {a : Int} (hd : decode mm.2.1 pc = .ok (.i2b, 1)) (k : ∀ v : Int, good (pc + 1) L (.inl v :: S) F G) : good pc L (.inl a :: S) F G := by
  obtain ⟨p, l, e, R, s, m, args, below, meth, c, Q, OB, D, DA, sz, A, H0, Ts, cells, slots, ⟨hx, hb, hml, hD, hKS⟩, ⟨hsz, hXp, hX, -⟩, ⟨hwf, hinj, hge, hOB⟩, hg⟩ := hB
  refine (hg _ _ _ _ _).mpr fun H locs ls stk h1 h2 h3 h4 h5 => ?_
  obtain ⟨w, st, rfl, ⟨x, rfl, hx2⟩, h6⟩ := h5
  exact lv_i2b hx hb hd rfl ((hg _ _ _ _ _).mp (k _) H locs ls _ h1 h2 h3 h4 ⟨_, _, rfl, ⟨_, rfl, rfl⟩, h6⟩)
/-- a call of a string's method -/
theorem zkt_inv (hB : zv_B cl FT (zs_KX own tx k1 n own2 k2) TBL MT y mm K rm good) {i : Nat} {mm2 : zM} {rm2 : Nat × Nat} {P2 : zNP} {Q2 : zNQ} {va : List zNV} (hok : zv_OK TBL cl (zs_KX own tx k1 n own2 k2) y mm2 rm2 P2 Q2) (hlk : z_lk TBL mm.1.cls 0 i mm2.1 mm2.2.1 mm2.2.2.1 mm2.2.2.2.1 mm2.2.2.2.2.1) (hcl : mm2.1.cls = "java/lang/String") (hd : decode mm.2.1 pc = .ok (.invokevirtual i, 3))
    (hn : Nat.beq va.length mm2.2.2.2.2.1 = true) (hS : (Nat.ble S.length 8 && S.all zv_n1) = true) (hr1 : rm2.1 + 1 ≤ rm.1) (hr2 : 8 + (mm2.2.2.1 + 11) + rm2.2 ≤ rm.2)
    (hP : P2 (.inr 902 :: va) F G) (k : ∀ r F' G', Q2 (.inr 902 :: va) F G r F' G' → good (pc + 3) L (zv_ro r S) F' G') : good pc L (va.reverse ++ .inr 902 :: S) F G := by
  obtain ⟨p, l, e, R, s, m, args, below, meth, cc, Q, OB, D, DA, sz, A, H0, Ts, cells, slots, ⟨hx, hb, hml, hD, hKS⟩, ⟨hsz, hXp, hX, hrf, hrl, hrc, hrs⟩, ⟨hwf, hinj, hge, hOB⟩, hg⟩ := hB
  refine (hg _ _ _ _ _).mpr fun H locs ls stk h1 h2 h3 h4 h5 => ?_
  have hgd := hKS.2.2.2.2.2.1
  obtain ⟨hcode, hini, hmh, hnp, k1', k2', k3'⟩ := hlk
  obtain ⟨hts, hown, hK, htys⟩ := hD
  obtain ⟨va1, st1, rfl, hv1, w0, st2, rfl, hw, h6⟩ := zv_st_app h5
  have hw : w0 = .ref (A (900 + 2)) := hw
  subst hw
  have hrev : ∃ vb, va1 = vb.reverse ∧ zv_st A va vb := ⟨va1.reverse, by rw [List.reverse_reverse], by have := zv_st_rev hv1; rwa [List.reverse_reverse] at this⟩
  obtain ⟨vb, rfl, hvb⟩ := hrev
  obtain ⟨f, g1, ⟨cell, q1, q2, q3, q4⟩, g3, g4, g5, g6, g7⟩ := zs_X0 hX h3
  have hnp2 : ∀ sig, parseMethodDescriptor mm2.1.desc = some sig → mm2.2.2.2.2.1 = sig.parameters.length := by
    intro sig hsig
    rw [hsig] at hnp
    exact (Option.some.inj hnp).symm
  have hwsG : ∀ w ∈ (Cond.code mm2.1 mm2.2.1 mm2.2.2.1 mm2.2.2.2.1 :: TBL), ∀ (a' : Array Value) (U : State), s.WarmedH U.vm → w.before a' U = true := by
    refine z_pay hts (fun w hw => ?_)
    rcases List.mem_cons.mp hw with rfl | hw
    · exact ⟨(hgd _ hcode).1, rfl⟩
    · exact ⟨(hgd w hw).1, (hgd w hw).2⟩
  have hH : sz ≤ H.size := by rw [h2.1]; exact hsz
  have hXH := hXp.2.1 s H0 H hX h3.1 h3.2.1
  have hlen := zv_st_len hvb
  have hst : zv_st A (.inr 902 :: va) (.ref (A (900 + 2)) :: vb) := ⟨_, _, rfl, zv_w_mk (A := A) (c := 902) (by decide), hvb⟩
  have hpre : ∀ U : State, U.heap = H → s.WarmedH U.vm → zv_Pre D DA cl y sz (zs_KX own tx k1 n own2 k2 OB sz) A (.inr 902 :: va) F G (Value.ref (A (900 + 2)) :: vb).toArray U := fun U hU hW => ⟨_, rfl, hst, by rw [hU]; exact h1, by rw [hU]; exact hH, va_K.moved hW.alike hK, by rw [hU]; exact hXp.1 s U H hXH hW⟩
  have hsum : (st2.map fun v => v.category).sum ≤ 8 := by
    rw [Bool.and_eq_true] at hS
    rw [zv_sum1 (zv_st_cat hS.2 h6), zv_st_len h6]
    exact Nat.le_of_ble_eq_true hS.1
  refine zv_after (va_runV (b := A (900 + 2)) (As := vb) (rest := st2) (C := mm2.1.cls) (n := mm2.2.2.2.2.1) ⟨hx, hb, hml, hown, hts⟩ (hok l OB D DA sz A _ F G hP hinj hge hOB) ⟨⟨rfl, rfl, by show rm2.1 + 1 ≤ _; omega, by show 8 + (mm2.2.2.1 + 11) + rm2.2 ≤ _; omega, hwsG, List.mem_cons_self, hts _ (hgd _ hcode).1, hts _ (hgd _ hini).1, hmh, hnp2, hts _ (hgd _ k1').1⟩, hts _ (hgd _ k2').1, hts _ (hgd _ k3').1⟩ ⟨zv_blind hXp, ⟨cell, by rw [hOB 2]; exact q1, q2, by rw [hcl]; exact q3⟩, hpre⟩ rfl (hlen.trans (z_beq hn)) (by obtain ⟨lv, z1, _⟩ := h4; exact z1.1) rfl (lv_room hsum) hd ⟨hrc, hrs⟩) h3 ?_ ?_
  · intro v s1 t hs1 hq
    obtain ⟨r', v', F', G', e0, q1, q2, q3, q4⟩ := hq
    rw [hs1] at q3
    exact ⟨q3.1, fun q hq => q3.2.1 q (fun c2 hc2 e => hq (by rw [← e]; exact hge _ hc2))⟩
  · intro v s1 t locs1 hs1 hq hS1
    obtain ⟨r', v', F', G', e0, q1, q2, q3, q4⟩ := hq
    have e0 : v = v' := Outcome.returned.inj e0
    subst e0
    rw [hs1] at q3
    refine (hg _ _ _ _ _).mp (k r' F' G' q4) t.heap locs1 ls _ q2 (zv_frm_tr h2 q3) hS1 h4 ?_
    match r', v, q1 with
    | none, none, _ => exact h6
    | some x, some w, ⟨z, z1, z2⟩ => exact ⟨w, st2, rfl, ⟨z, z1, z2⟩, h6⟩
/-- a string's length -/
theorem zkt_length (hB : zv_B cl FT (zs_KX own tx k1 n own2 k2) TBL MT y mm K rm good) {i : Nat} (hw : ∀ w ∈ zs_w, w ∈ TBL) (hn : n < 2147483648) (hlk : Cond.methodLink mm.1.cls i zs_yL ∈ TBL) (hd : decode mm.2.1 pc = .ok (.invokevirtual i, 3)) (hS : (Nat.ble S.length 8 && S.all zv_n1) = true) (hr1 : 2 ≤ rm.1) (hr2 : 40 ≤ rm.2)
    (k : good (pc + 3) L (.inl n :: S) F G) : good pc L (.inr 902 :: S) F G := by
  obtain ⟨p, l, e, R, s, m, args, below, meth, cc, Q, OB, D, DA, sz, A, H0, Ts, cells, slots, ⟨hx, hb, hml, hD, hKS⟩, ⟨hsz, hXp, hX, hrf, hrl, hrc, hrs⟩, ⟨hwf, hinj, hge, hOB⟩, hg⟩ := hB
  refine (hg _ _ _ _ _).mpr fun H locs ls stk h1 h2 h3 h4 h5 => ?_
  have hgd := hKS.2.2.2.2.2.1
  obtain ⟨hts, hown, hK, htys⟩ := hD
  obtain ⟨w0, st2, rfl, hw0, h6⟩ := h5
  have hw0 : w0 = .ref (A (900 + 2)) := hw0
  rw [hOB 2] at hw0
  subst hw0
  have hKH : zs_K own2 tx k2 n (fun j => OB (j + 1)) sz s H := by
    obtain ⟨f, g1, g2, g3, g4, g5, g6, g7⟩ := zs_X0 hX h3
    exact ⟨OB 3, f, g1, g2, g3, g4, g5, g6⟩
  have hK0 := hKH
  obtain ⟨adV, f, y1, y2, y3, y4, y5, y6⟩ := hKH
  have hw2 : ∀ w ∈ zs_w, w.before args s = true := fun w h => hts w (hgd _ (hw w h)).1
  have hwsG : ∀ w ∈ (Cond.code zs_yL prog_18_method_54_code 1 (some .int) :: TBL), ∀ (a' : Array Value) (U : State), s.WarmedH U.vm → w.before a' U = true := by
    refine z_pay hts (fun w h => ?_)
    rcases List.mem_cons.mp h with rfl | h
    · exact ⟨(hgd _ (hw _ (List.mem_of_getElem? (i := 8) rfl))).1, rfl⟩
    · exact ⟨(hgd w h).1, (hgd w h).2⟩
  refine W.callR (W.runV (b := OB 2) (As := []) (rest := st2) (C := "java/lang/String") (n := 0) (index := i) ⟨hx, hb, hml, hown, hts⟩ (zs_length (own := own2) (tx := tx) (k := k2) (n := n) (OB := fun j => OB (j + 1)) (sz := sz) l hw (fun w h => (hgd w h).2) hn) ⟨⟨rfl, rfl, by show 1 + 1 ≤ _; omega, by show 8 + (1 + 11) + 20 ≤ _; omega, hwsG, List.mem_cons_self, hw2 _ (List.mem_of_getElem? (i := 8) rfl), hw2 _ (List.mem_of_getElem? (i := 6) rfl), by decide, fun sig h => ?_, hts _ (hgd _ hlk).1⟩, hw2 _ (List.mem_of_getElem? (i := 9) rfl), hw2 _ (List.mem_of_getElem? (i := 10) rfl)⟩ ⟨zs_blind, ?_, fun U hU hW => ⟨rfl, ?_⟩⟩ rfl rfl (by obtain ⟨lv, z1, _⟩ := h4; exact z1.1) rfl ?_ hd ⟨hrc, hrs⟩) ?_
  · have : (parseMethodDescriptor "()I").map (fun d => d.parameters.length) = some 0 := by decide +kernel
    rw [h] at this
    exact (Option.some.inj this).symm
  · obtain ⟨cell, z1, z2, z3, -⟩ := y2
    exact ⟨cell, z1, z2, z3⟩
  · rw [hU]
    exact zs_K_p.1 s U H hK0 hW
  · refine lv_room ?_
    rw [Bool.and_eq_true] at hS
    rw [zv_sum1 (zv_st_cat hS.2 h6), zv_st_len h6]
    exact Nat.le_of_ble_eq_true hS.1
  · exact (hg _ _ _ _ _).mp k H locs ls _ h1 h2 h3 h4 ⟨_, _, rfl, ⟨_, rfl, Int32.toInt_ofNat_of_lt (by omega)⟩, h6⟩
end ZVSTRN
/-! The place of a letter among the letters. -/
theorem zd37_0 : decode zxm37.2.1 0 = .ok (.iload_n 0, 1) := by decide +kernel
theorem zd37_1 : decode zxm37.2.1 1 = .ok (.iload_n 1, 1) := by decide +kernel
theorem zd37_2 : decode zxm37.2.1 2 = .ok (.if_icmp .gt 7, 3) := by decide +kernel
theorem zd37_5 : decode zxm37.2.1 5 = .ok (.iload_n 0, 1) := by decide +kernel
theorem zd37_6 : decode zxm37.2.1 6 = .ok (.goto 4, 3) := by decide +kernel
theorem zd37_9 : decode zxm37.2.1 9 = .ok (.iload_n 1, 1) := by decide +kernel
theorem zd37_10 : decode zxm37.2.1 10 = .ok (.ireturn, 1) := by decide +kernel
theorem zd50_0 : decode zxm50.2.1 0 = .ok (.aload_n 0, 1) := by decide +kernel
theorem zd50_1 : decode zxm50.2.1 1 = .ok (.iload_n 1, 1) := by decide +kernel
theorem zd50_2 : decode zxm50.2.1 2 = .ok (.iconst 0, 1) := by decide +kernel
theorem zd50_3 : decode zxm50.2.1 3 = .ok (.invokevirtual 633, 3) := by decide +kernel
theorem zd50_6 : decode zxm50.2.1 6 = .ok (.ireturn, 1) := by decide +kernel
theorem zd51_0 : decode zxm51.2.1 0 = .ok (.aload_n 0, 1) := by decide +kernel
theorem zd51_1 : decode zxm51.2.1 1 = .ok (.invokevirtual 492, 3) := by decide +kernel
theorem zd51_4 : decode zxm51.2.1 4 = .ok (.ifCond .eq 19, 3) := by decide +kernel
theorem zd51_7 : decode zxm51.2.1 7 = .ok (.aload_n 0, 1) := by decide +kernel
theorem zd51_8 : decode zxm51.2.1 8 = .ok (.getfield 9, 3) := by decide +kernel
theorem zd51_11 : decode zxm51.2.1 11 = .ok (.iload_n 1, 1) := by decide +kernel
theorem zd51_12 : decode zxm51.2.1 12 = .ok (.iload_n 2, 1) := by decide +kernel
theorem zd51_13 : decode zxm51.2.1 13 = .ok (.aload_n 0, 1) := by decide +kernel
theorem zd51_14 : decode zxm51.2.1 14 = .ok (.invokevirtual 505, 3) := by decide +kernel
theorem zd51_17 : decode zxm51.2.1 17 = .ok (.invokestatic 637, 3) := by decide +kernel
theorem zd51_20 : decode zxm51.2.1 20 = .ok (.goto 16, 3) := by decide +kernel
theorem zd51_36 : decode zxm51.2.1 36 = .ok (.ireturn, 1) := by decide +kernel
theorem zd52_0 : decode zxm52.2.1 0 = .ok (.getstatic 38, 3) := by decide +kernel
theorem zd52_3 : decode zxm52.2.1 3 = .ok (.ifCond .eq 14, 3) := by decide +kernel
theorem zd52_6 : decode zxm52.2.1 6 = .ok (.aload_n 0, 1) := by decide +kernel
theorem zd52_7 : decode zxm52.2.1 7 = .ok (.getfield 15, 3) := by decide +kernel
theorem zd52_10 : decode zxm52.2.1 10 = .ok (.ifCond .ne 7, 3) := by decide +kernel
theorem zd52_13 : decode zxm52.2.1 13 = .ok (.iconst 1, 1) := by decide +kernel
theorem zd52_14 : decode zxm52.2.1 14 = .ok (.goto 4, 3) := by decide +kernel
theorem zd52_18 : decode zxm52.2.1 18 = .ok (.ireturn, 1) := by decide +kernel
theorem zd53_0 : decode zxm53.2.1 0 = .ok (.iload_n 1, 1) := by decide +kernel
theorem zd53_1 : decode zxm53.2.1 1 = .ok (.invokestatic 88, 3) := by decide +kernel
theorem zd53_4 : decode zxm53.2.1 4 = .ok (.ifCond .ne 5, 3) := by decide +kernel
theorem zd53_7 : decode zxm53.2.1 7 = .ok (.iconst (-1), 1) := by decide +kernel
theorem zd53_8 : decode zxm53.2.1 8 = .ok (.ireturn, 1) := by decide +kernel
theorem zd53_9 : decode zxm53.2.1 9 = .ok (.iload_n 2, 1) := by decide +kernel
theorem zd53_10 : decode zxm53.2.1 10 = .ok (.iconst 0, 1) := by decide +kernel
theorem zd53_11 : decode zxm53.2.1 11 = .ok (.invokestatic 92, 3) := by decide +kernel
theorem zd53_14 : decode zxm53.2.1 14 = .ok (.istore_n 2, 1) := by decide +kernel
theorem zd53_15 : decode zxm53.2.1 15 = .ok (.iload_n 3, 1) := by decide +kernel
theorem zd53_16 : decode zxm53.2.1 16 = .ok (.aload_n 0, 1) := by decide +kernel
theorem zd53_17 : decode zxm53.2.1 17 = .ok (.arraylength, 1) := by decide +kernel
theorem zd53_18 : decode zxm53.2.1 18 = .ok (.invokestatic 38, 3) := by decide +kernel
theorem zd53_21 : decode zxm53.2.1 21 = .ok (.istore_n 3, 1) := by decide +kernel
theorem zd53_22 : decode zxm53.2.1 22 = .ok (.iload_n 2, 1) := by decide +kernel
theorem zd53_23 : decode zxm53.2.1 23 = .ok (.iload_n 3, 1) := by decide +kernel
theorem zd53_24 : decode zxm53.2.1 24 = .ok (.if_icmp .lt 5, 3) := by decide +kernel
theorem zd53_29 : decode zxm53.2.1 29 = .ok (.aload_n 0, 1) := by decide +kernel
theorem zd53_30 : decode zxm53.2.1 30 = .ok (.iload_n 1, 1) := by decide +kernel
theorem zd53_31 : decode zxm53.2.1 31 = .ok (.iload_n 2, 1) := by decide +kernel
theorem zd53_32 : decode zxm53.2.1 32 = .ok (.iload_n 3, 1) := by decide +kernel
theorem zd53_33 : decode zxm53.2.1 33 = .ok (.invokestatic 95, 3) := by decide +kernel
theorem zd53_36 : decode zxm53.2.1 36 = .ok (.ireturn, 1) := by decide +kernel
theorem zd54_0 : decode zxm54.2.1 0 = .ok (.iload_n 0, 1) := by decide +kernel
theorem zd54_1 : decode zxm54.2.1 1 = .ok (.ifCond .lt 14, 3) := by decide +kernel
theorem zd54_4 : decode zxm54.2.1 4 = .ok (.iload_n 0, 1) := by decide +kernel
theorem zd54_5 : decode zxm54.2.1 5 = .ok (.sipush 255, 3) := by decide +kernel
theorem zd54_8 : decode zxm54.2.1 8 = .ok (.if_icmp .gt 7, 3) := by decide +kernel
theorem zd54_11 : decode zxm54.2.1 11 = .ok (.iconst 1, 1) := by decide +kernel
theorem zd54_12 : decode zxm54.2.1 12 = .ok (.goto 4, 3) := by decide +kernel
theorem zd54_15 : decode zxm54.2.1 15 = .ok (.iconst 0, 1) := by decide +kernel
theorem zd54_16 : decode zxm54.2.1 16 = .ok (.ireturn, 1) := by decide +kernel
theorem zd55_0 : decode zxm55.2.1 0 = .ok (.iload_n 0, 1) := by decide +kernel
theorem zd55_1 : decode zxm55.2.1 1 = .ok (.iload_n 1, 1) := by decide +kernel
theorem zd55_2 : decode zxm55.2.1 2 = .ok (.if_icmp .lt 7, 3) := by decide +kernel
theorem zd55_5 : decode zxm55.2.1 5 = .ok (.iload_n 0, 1) := by decide +kernel
theorem zd55_6 : decode zxm55.2.1 6 = .ok (.goto 4, 3) := by decide +kernel
theorem zd55_9 : decode zxm55.2.1 9 = .ok (.iload_n 1, 1) := by decide +kernel
theorem zd55_10 : decode zxm55.2.1 10 = .ok (.ireturn, 1) := by decide +kernel
theorem zd56_0 : decode zxm56.2.1 0 = .ok (.iload_n 1, 1) := by decide +kernel
theorem zd56_1 : decode zxm56.2.1 1 = .ok (.i2b, 1) := by decide +kernel
theorem zd56_2 : decode zxm56.2.1 2 = .ok (.istore 4, 2) := by decide +kernel
theorem zd56_4 : decode zxm56.2.1 4 = .ok (.iload_n 2, 1) := by decide +kernel
theorem zd56_5 : decode zxm56.2.1 5 = .ok (.istore 5, 2) := by decide +kernel
theorem zd56_7 : decode zxm56.2.1 7 = .ok (.iload 5, 2) := by decide +kernel
theorem zd56_9 : decode zxm56.2.1 9 = .ok (.iload_n 3, 1) := by decide +kernel
theorem zd56_10 : decode zxm56.2.1 10 = .ok (.if_icmp .ge 21, 3) := by decide +kernel
theorem zd56_13 : decode zxm56.2.1 13 = .ok (.aload_n 0, 1) := by decide +kernel
theorem zd56_14 : decode zxm56.2.1 14 = .ok (.iload 5, 2) := by decide +kernel
theorem zd56_16 : decode zxm56.2.1 16 = .ok (.baload, 1) := by decide +kernel
theorem zd56_17 : decode zxm56.2.1 17 = .ok (.iload 4, 2) := by decide +kernel
theorem zd56_19 : decode zxm56.2.1 19 = .ok (.if_icmp .ne 6, 3) := by decide +kernel
theorem zd56_22 : decode zxm56.2.1 22 = .ok (.iload 5, 2) := by decide +kernel
theorem zd56_24 : decode zxm56.2.1 24 = .ok (.ireturn, 1) := by decide +kernel
theorem zd56_25 : decode zxm56.2.1 25 = .ok (.iinc 5 1, 3) := by decide +kernel
theorem zd56_28 : decode zxm56.2.1 28 = .ok (.goto (-21), 3) := by decide +kernel
theorem zd56_31 : decode zxm56.2.1 31 = .ok (.iconst (-1), 1) := by decide +kernel
theorem zd56_32 : decode zxm56.2.1 32 = .ok (.ireturn, 1) := by decide +kernel
set_option maxRecDepth 20000 in
theorem zl50 : z_lk z_TB "StarTales$LawReader" 0 103 zxm50.1 zxm50.2.1 zxm50.2.2.1 zxm50.2.2.2.1 zxm50.2.2.2.2.1 := ⟨zxh50.1, zxh50.2.1, zxh50.2.2.1, zxh50.2.2.2, (List.mem_filter.mpr ⟨List.mem_of_getElem? (i := 748) (by decide +kernel), rfl⟩), (List.mem_filter.mpr ⟨List.mem_of_getElem? (i := 749) (by decide +kernel), rfl⟩), (List.mem_filter.mpr ⟨List.mem_of_getElem? (i := 750) (by decide +kernel), rfl⟩)⟩
set_option maxRecDepth 20000 in
theorem zl51 : z_lk z_TB "java/lang/String" 0 633 zxm51.1 zxm51.2.1 zxm51.2.2.1 zxm51.2.2.2.1 zxm51.2.2.2.2.1 := ⟨zxh51.1, zxh51.2.1, zxh51.2.2.1, zxh51.2.2.2, (List.mem_filter.mpr ⟨List.mem_of_getElem? (i := 752) (by decide +kernel), rfl⟩), (List.mem_filter.mpr ⟨List.mem_of_getElem? (i := 753) (by decide +kernel), rfl⟩), (List.mem_filter.mpr ⟨List.mem_of_getElem? (i := 754) (by decide +kernel), rfl⟩)⟩
set_option maxRecDepth 20000 in
theorem zl52 : z_lk z_TB "java/lang/String" 0 492 zxm52.1 zxm52.2.1 zxm52.2.2.1 zxm52.2.2.2.1 zxm52.2.2.2.2.1 := ⟨zxh52.1, zxh52.2.1, zxh52.2.2.1, zxh52.2.2.2, (List.mem_filter.mpr ⟨List.mem_of_getElem? (i := 756) (by decide +kernel), rfl⟩), (List.mem_filter.mpr ⟨List.mem_of_getElem? (i := 757) (by decide +kernel), rfl⟩), (List.mem_filter.mpr ⟨List.mem_of_getElem? (i := 758) (by decide +kernel), rfl⟩)⟩
set_option maxRecDepth 20000 in
theorem zl_st : Cond.fieldLink "java/lang/String" 38 "java/lang/String" "COMPACT_STRINGS" "Z" ∈ z_TB := (List.mem_filter.mpr ⟨List.mem_of_getElem? (i := 262) (by decide +kernel), rfl⟩)
set_option maxRecDepth 20000 in
theorem zl_co : Cond.fieldLink "java/lang/String" 15 "java/lang/String" "coder" "B" ∈ z_TB := (List.mem_filter.mpr ⟨List.mem_of_getElem? (i := 2101) (by decide +kernel), rfl⟩)
set_option maxRecDepth 20000 in
theorem zl_va : Cond.fieldLink "java/lang/String" 9 "java/lang/String" "value" "[B" ∈ z_TB := (List.mem_filter.mpr ⟨List.mem_of_getElem? (i := 2100) (by decide +kernel), rfl⟩)
set_option maxRecDepth 20000 in
theorem zl_le : Cond.methodLink "java/lang/String" 505 zs_yL ∈ z_TB := (List.mem_filter.mpr ⟨List.mem_of_getElem? (i := 760) (by decide +kernel), rfl⟩)
def zs_find (b : Int) : Nat → Nat → Int
  | 0, _ => -1
  | m + 1, k => if (zs_by k).toInt = b then (k : Int) else zs_find b m (k + 1)
def zi_letter (c : Int) : Int := if 0 ≤ c ∧ c ≤ 255 then zs_find (zi_by c) 13 0 else -1
section ZVINDEX
variable {c : Int}
theorem kzh55s {y : zNL} (hy : zv_wf y = true) {x z : Int} : zv_OK z_TB z_cl z_KX y zxm55 (0, 0) (fun va F G => va = [.inl x, .inl z]) (fun va F G r F' G' => F' = F ∧ G' = G ∧ ∃ v, r = some v ∧ x ≤ v ∧ z ≤ v ∧ (v = x ∨ v = z)) := zv_meth (K := (z_KF16, z_KC16, z_KL16, z_KT16, [], [], [], none)) (FT := z_FT) (MT := z_MT) (n := 2) zxp55 (z_ks16 _ (fun _ h => List.mem_cons_of_mem _ h) _ _ _ _ (fun j r h _ => by cases h)) (fun _ _ => zs_KX_p) hy (fun va F G h => by obtain ⟨rfl, _⟩ := h; rfl) (fun va F G h => by obtain ⟨rfl, _⟩ := h; rfl) rfl fun good va F G hB hret hvret hP => by
  subst hP
  refine zv_ild hB zd55_0 rfl rfl ?_
  refine zv_ild hB zd55_1 rfl rfl ?_
  refine zv_clt hB zd55_2 rfl (fun h2 => ?_) (fun h2 => ?_)
  · refine zv_ild hB zd55_9 rfl rfl ?_
    exact hret _ _ _ _ _ zd55_10 trivial ⟨rfl, rfl, _, rfl, by omega, by omega, by omega⟩
  · refine zv_ild hB zd55_5 rfl rfl ?_
    refine zv_goto hB zd55_6 rfl ?_
    exact hret _ _ _ _ _ zd55_10 trivial ⟨rfl, rfl, _, rfl, by omega, by omega, by omega⟩
theorem kzh37s {y : zNL} (hy : zv_wf y = true) {x z : Int} : zv_OK z_TB z_cl z_KX y zxm37 (0, 0) (fun va F G => va = [.inl x, .inl z]) (fun va F G r F' G' => F' = F ∧ G' = G ∧ ∃ v, r = some v ∧ v ≤ x ∧ v ≤ z ∧ (v = x ∨ v = z)) := zv_meth (K := (z_KF16, z_KC16, z_KL16, z_KT16, [], [], [], none)) (FT := z_FT) (MT := z_MT) (n := 2) zxp37 (z_ks16 _ (fun _ h => List.mem_cons_of_mem _ h) _ _ _ _ (fun j r h _ => by cases h)) (fun _ _ => zs_KX_p) hy (fun va F G h => by obtain ⟨rfl, _⟩ := h; rfl) (fun va F G h => by obtain ⟨rfl, _⟩ := h; rfl) rfl fun good va F G hB hret hvret hP => by
  subst hP
  refine zv_ild hB zd37_0 rfl rfl ?_
  refine zv_ild hB zd37_1 rfl rfl ?_
  refine zv_cgt hB zd37_2 rfl (fun h2 => ?_) (fun h2 => ?_)
  · refine zv_ild hB zd37_9 rfl rfl ?_
    exact hret _ _ _ _ _ zd37_10 trivial ⟨rfl, rfl, _, rfl, by omega, by omega, by omega⟩
  · refine zv_ild hB zd37_5 rfl rfl ?_
    refine zv_goto hB zd37_6 rfl ?_
    exact hret _ _ _ _ _ zd37_10 trivial ⟨rfl, rfl, _, rfl, by omega, by omega, by omega⟩
theorem kzh54 {y : zNL} (hy : zv_wf y = true)  : zv_OK z_TB z_cl z_KX y zxm54 (0, 0) (fun va F G => va = [.inl c]) (fun va F G r F' G' => F' = F ∧ G' = G ∧ r = some (if 0 ≤ c ∧ c ≤ 255 then (1 : Int) else 0)) := zv_meth (K := (z_KF18, z_KC18, z_KL18, z_KT18, [], [], [], none)) (FT := z_FT) (MT := z_MT) (n := 1) zxp54 (z_ks18 _ (fun _ h => List.mem_cons_of_mem _ h) _ _ _ _ (fun j r h _ => by cases h)) (fun _ _ => zs_KX_p) hy (fun va F G h => by obtain ⟨rfl, _⟩ := h; rfl) (fun va F G h => by obtain ⟨rfl, _⟩ := h; rfl) rfl fun good va F G hB hret hvret hP => by
  subst hP
  refine zv_ild hB zd54_0 rfl rfl ?_
  refine zv_zlt hB zd54_1 rfl (fun h1 => ?_) (fun h1 => ?_)
  · refine zv_con hB zd54_15 rfl ?_
    refine hret _ _ _ _ _ zd54_16 (by constructor <;> decide) ⟨rfl, rfl, ?_⟩
    first | rw [if_pos (by omega)] | rw [if_neg (by omega)]
  · refine zv_ild hB zd54_4 rfl rfl ?_
    refine zv_con hB zd54_5 rfl ?_
    refine zv_cgt hB zd54_8 rfl (fun h8 => ?_) (fun h8 => ?_)
    · refine zv_con hB zd54_15 rfl ?_
      refine hret _ _ _ _ _ zd54_16 (by constructor <;> decide) ⟨rfl, rfl, ?_⟩
      first | rw [if_pos (by omega)] | rw [if_neg (by omega)]
    · refine zv_con hB zd54_11 rfl ?_
      refine zv_goto hB zd54_12 rfl ?_
      refine hret _ _ _ _ _ zd54_16 (by constructor <;> decide) ⟨rfl, rfl, ?_⟩
      first | rw [if_pos (by omega)] | rw [if_neg (by omega)]
theorem kzh56 {y : zNL} (hy : zv_wf y = true)  : zv_OK z_TB z_cl z_KX y zxm56 (0, 0) (fun va F G => va = [.inr 903, .inl c, .inl 0, .inl 13]) (fun va F G r F' G' => F' = F ∧ G' = G ∧ r = some (zs_find (zi_by c) 13 0)) := zv_meth (K := (z_KF18, z_KC18, z_KL18, z_KT18, [], [], [], none)) (FT := z_FT) (MT := z_MT) (n := 4) zxp56 (z_ks18 _ (fun _ h => List.mem_cons_of_mem _ h) _ _ _ _ (fun j r h _ => by cases h)) (fun _ _ => zs_KX_p) hy (fun va F G h => by obtain ⟨rfl, _⟩ := h; rfl) (fun va F G h => by obtain ⟨rfl, _⟩ := h; rfl) rfl fun good va F G hB hret hvret hP => by
  subst hP
  have key : ∀ (m k : Nat), m + k = 13 → zs_find (zi_by c) m k = zs_find (zi_by c) 13 0 → good 7 [.inr 903, .inl c, .inl 0, .inl 13, .inl (zi_by c), .inl k] [] F G := by
    intro m
    induction m with
    | zero =>
      intro k c1 c2
      refine zv_ild hB zd56_7 rfl rfl ?_
      refine zv_ild hB zd56_9 rfl rfl ?_
      refine zv_cge hB zd56_10 rfl (fun h10 => ?_) (fun h10 => ?_)
      · refine zv_con hB zd56_31 rfl ?_
        exact hret _ _ _ _ _ zd56_32 trivial ⟨rfl, rfl, by rw [← c2]; rfl⟩
      · exfalso; omega
    | succ m ih =>
      intro k c1 c2
      refine zv_ild hB zd56_7 rfl rfl ?_
      refine zv_ild hB zd56_9 rfl rfl ?_
      refine zv_cge hB zd56_10 rfl (fun h10 => ?_) (fun h10 => ?_)
      · exfalso; omega
      · refine zv_ald hB zd56_13 rfl rfl rfl ?_
        refine zv_ild hB zd56_14 rfl rfl ?_
        refine zkt_bald hB (by omega) (by show (k : Int) < ((13 : Nat) : Int); omega) zd56_16 ?_
        refine zv_ild hB zd56_17 rfl rfl ?_
        refine zv_cne hB zd56_19 rfl (fun h19 => ?_) (fun h19 => ?_)
        · refine zv_iinc hB zd56_25 rfl rfl (by omega) (by omega) ?_
          refine zv_goto hB zd56_28 rfl ?_
          refine ih (k + 1) (by omega) ?_
          rw [← c2]
          show _ = (if (zs_by k).toInt = zi_by c then (k : Int) else zs_find (zi_by c) m (k + 1))
          rw [if_neg (by rw [Int.toNat_natCast] at h19; exact h19)]
        · refine zv_ild hB zd56_22 rfl rfl ?_
          refine hret _ _ _ _ _ zd56_24 trivial ⟨rfl, rfl, ?_⟩
          rw [← c2]
          show _ = some (if (zs_by k).toInt = zi_by c then (k : Int) else zs_find (zi_by c) m (k + 1))
          rw [if_pos (by rw [Int.toNat_natCast] at h19; exact h19)]
  refine zv_ild hB zd56_0 rfl rfl ?_
  refine zv_i2b hB zd56_1 ?_
  refine zv_ist hB zd56_2 rfl rfl rfl ?_
  refine zv_ild hB zd56_4 rfl rfl ?_
  refine zv_ist hB zd56_5 rfl rfl rfl ?_
  exact key 13 0 rfl rfl
theorem kzh53 {y : zNL} (hy : zv_wf y = true)  : zv_OK z_TB z_cl z_KX y zxm53 (1, 60) (fun va F G => va = [.inr 903, .inl c, .inl 0, .inl 13]) (fun va F G r F' G' => F' = F ∧ G' = G ∧ r = some (zi_letter c)) := zv_meth (K := (z_KF18, z_KC18, z_KL18, z_KT18, [], [], [], none)) (FT := z_FT) (MT := z_MT) (n := 4) zxp53 (z_ks18 _ (fun _ h => List.mem_cons_of_mem _ h) _ _ _ _ (fun j r h _ => by cases h)) (fun _ _ => zs_KX_p) hy (fun va F G h => by obtain ⟨rfl, _⟩ := h; rfl) (fun va F G h => by obtain ⟨rfl, _⟩ := h; rfl) rfl fun good va F G hB hret hvret hP => by
  subst hP
  refine zv_ild hB zd53_0 rfl rfl ?_
  refine zv_it1 hB (kzh54 hy) zd53_1 zxt54 rfl rfl (fun r1 F1 G1 hq1 => ?_)
  obtain ⟨rfl, rfl, rfl⟩ := hq1
  by_cases hc : 0 ≤ c ∧ c ≤ 255
  rotate_left
  · rw [if_neg hc]
    refine zv_zne hB zd53_4 rfl (fun h4 => ?_) (fun h4 => ?_)
    · exfalso; omega
    · refine zv_con hB zd53_7 rfl ?_
      exact hret _ _ _ _ _ zd53_8 trivial ⟨rfl, rfl, by unfold zi_letter; rw [if_neg hc]⟩
  · rw [if_pos hc]
    refine zv_zne hB zd53_4 rfl (fun h4 => ?_) (fun h4 => ?_)
    · refine zv_ild hB zd53_9 rfl rfl ?_
      refine zv_con hB zd53_10 rfl ?_
      refine zv_it2 hB (kzh55s hy) zd53_11 zxt55 rfl rfl (fun r11 F11 G11 hq11 => ?_)
      obtain ⟨rfl, rfl, v, rfl, v1, v2, v3⟩ := hq11
      refine zv_ist hB zd53_14 rfl rfl rfl ?_
      refine zv_ild hB zd53_15 rfl rfl ?_
      refine zv_ald hB zd53_16 rfl rfl rfl ?_
      refine zkt_len hB (by omega) zd53_17 ?_
      refine zv_it2 hB (kzh37s hy) zd53_18 zxt37 rfl rfl (fun r18 F18 G18 hq18 => ?_)
      obtain ⟨rfl, rfl, u, rfl, u1, u2, u3⟩ := hq18
      refine zv_ist hB zd53_21 rfl rfl rfl ?_
      refine zv_ild hB zd53_22 rfl rfl ?_
      refine zv_ild hB zd53_23 rfl rfl ?_
      refine zv_clt hB zd53_24 rfl (fun h24 => ?_) (fun h24 => ?_)
      · refine zv_ald hB zd53_29 rfl rfl rfl ?_
        refine zv_ild hB zd53_30 rfl rfl ?_
        refine zv_ild hB zd53_31 rfl rfl ?_
        refine zv_ild hB zd53_32 rfl rfl ?_
        refine zv_it4 hB (kzh56 hy (c := c)) zd53_33 zxt56 rfl (by rw [show v = 0 by omega, show u = 13 by omega]) (fun r33 F33 G33 hq33 => ?_)
        obtain ⟨rfl, rfl, rfl⟩ := hq33
        exact hret _ _ _ _ _ zd53_36 trivial ⟨rfl, rfl, by unfold zi_letter; rw [if_pos hc]⟩
      · exfalso; omega
    · exfalso; omega
theorem kzh52 {y : zNL} (hy : zv_wf y = true)  : zv_OK z_TB z_cl z_KX y zxm52 (0, 0) (fun va F G => va = [.inr 902]) (fun va F G r F' G' => F' = F ∧ G' = G ∧ r = some 1) := zv_meth (K := (z_KF17, z_KC17, z_KL17, z_KT17, [], [], [], none)) (FT := z_FT) (MT := z_MT) (n := 1) zxp52 (z_ks17 _ (fun _ h => List.mem_cons_of_mem _ h) _ _ _ _ (fun j r h _ => by cases h)) (fun _ _ => zs_KX_p) hy (fun va F G h => by obtain ⟨rfl, _⟩ := h; rfl) (fun va F G h => by obtain ⟨rfl, _⟩ := h; rfl) rfl fun good va F G hB hret hvret hP => by
  subst hP
  refine zkt_stat hB zl_st zd52_0 ?_
  refine zv_zeq hB zd52_3 rfl (fun h3 => ?_) (fun h3 => ?_)
  · exfalso; omega
  · refine zv_ald hB zd52_6 rfl rfl rfl ?_
    refine zkt_coder hB zl_co zd52_7 ?_
    refine zv_zne hB zd52_10 rfl (fun h10 => ?_) (fun h10 => ?_)
    · exfalso; omega
    · refine zv_con hB zd52_13 rfl ?_
      refine zv_goto hB zd52_14 rfl ?_
      exact hret _ _ _ _ _ zd52_18 (by constructor <;> decide) ⟨rfl, rfl, rfl⟩
theorem kzh51 {y : zNL} (hy : zv_wf y = true)  : zv_OK z_TB z_cl z_KX y zxm51 (2, 120) (fun va F G => va = [.inr 902, .inl c, .inl 0]) (fun va F G r F' G' => F' = F ∧ G' = G ∧ r = some (zi_letter c)) := zv_meth (K := (z_KF17, z_KC17, z_KL17, z_KT17, [], [], [], none)) (FT := z_FT) (MT := z_MT) (n := 3) zxp51 (z_ks17 _ (fun _ h => List.mem_cons_of_mem _ h) _ _ _ _ (fun j r h _ => by cases h)) (fun _ _ => zs_KX_p) hy (fun va F G h => by obtain ⟨rfl, _⟩ := h; rfl) (fun va F G h => by obtain ⟨rfl, _⟩ := h; rfl) rfl fun good va F G hB hret hvret hP => by
  subst hP
  refine zv_ald hB zd51_0 rfl rfl rfl ?_
  refine zkt_inv (va := []) hB (kzh52 hy) zl52 rfl zd51_1 rfl rfl (by decide) (by decide) rfl (fun r1 F1 G1 hq1 => ?_)
  obtain ⟨rfl, rfl, rfl⟩ := hq1
  refine zv_zeq hB zd51_4 rfl (fun h4 => ?_) (fun h4 => ?_)
  · exfalso; omega
  · refine zv_ald hB zd51_7 rfl rfl rfl ?_
    refine zkt_value hB zl_va zd51_8 ?_
    refine zv_ild hB zd51_11 rfl rfl ?_
    refine zv_ild hB zd51_12 rfl rfl ?_
    refine zv_ald hB zd51_13 rfl rfl rfl ?_
    refine zkt_length hB zs_wt (by omega) zl_le zd51_14 rfl (by decide) (by decide) ?_
    refine zv_it4 hB (kzh53 hy (c := c)) zd51_17 zxt53 rfl rfl (fun r17 F17 G17 hq17 => ?_)
    obtain ⟨rfl, rfl, rfl⟩ := hq17
    refine zv_goto hB zd51_20 rfl ?_
    exact hret _ _ _ _ _ zd51_36 trivial ⟨rfl, rfl, rfl⟩
theorem kzh50 {y : zNL} (hy : zv_wf y = true)  : zv_OK z_TB z_cl z_KX y zxm50 (3, 180) (fun va F G => va = [.inr 902, .inl c]) (fun va F G r F' G' => F' = F ∧ G' = G ∧ r = some (zi_letter c)) := zv_meth (K := (z_KF17, z_KC17, z_KL17, z_KT17, [], [], [], none)) (FT := z_FT) (MT := z_MT) (n := 2) zxp50 (z_ks17 _ (fun _ h => List.mem_cons_of_mem _ h) _ _ _ _ (fun j r h _ => by cases h)) (fun _ _ => zs_KX_p) hy (fun va F G h => by obtain ⟨rfl, _⟩ := h; rfl) (fun va F G h => by obtain ⟨rfl, _⟩ := h; rfl) rfl fun good va F G hB hret hvret hP => by
  subst hP
  refine zv_ald hB zd50_0 rfl rfl rfl ?_
  refine zv_ild hB zd50_1 rfl rfl ?_
  refine zv_con hB zd50_2 rfl ?_
  refine zkt_inv (va := [.inl c, .inl 0]) hB (kzh51 hy) zl51 rfl zd50_3 rfl rfl (by decide) (by decide) rfl (fun r1 F1 G1 hq1 => ?_)
  obtain ⟨rfl, rfl, rfl⟩ := hq1
  exact hret _ _ _ _ _ zd50_6 trivial ⟨rfl, rfl, rfl⟩
end ZVINDEX
section ZVLET
variable {y : zNL} {mm : zM} {K : zK} {rm : Nat × Nat} {good : Nat → List zNV → List zNV → List zNV → List (Int → Int) → Prop}
variable {pc : Nat} {L S : List zNV} {F : List zNV} {G : List (Int → Int)}
theorem zv_letter (hB : zv_B z_cl z_FT z_KX z_TB z_MT y mm K rm good) (hy : zv_wf y = true) (hm : mm.1.cls = "StarTales$LawReader") (hS : (Nat.ble S.length 8 && S.all zv_n1) = true) {a : Int} (hd : decode mm.2.1 pc = .ok (.invokevirtual 103, 3)) (h1 : 6 ≤ rm.1) (h2 : 360 ≤ rm.2) (k : good (pc + 3) L (.inl (zi_letter a) :: S) F G) : good pc L (.inl a :: .inr 902 :: S) F G := by
  refine zkt_inv (va := [.inl a]) (S := S) hB (kzh50 hy) (by rw [hm]; exact zl50) rfl hd rfl hS (by show 3 + 1 ≤ _; omega) (by show 8 + (2 + 11) + 180 ≤ _; omega) rfl (fun r F' G' hq => ?_)
  obtain ⟨rfl, rfl, rfl⟩ := hq
  exact k
end ZVLET
end
section
/-! Methods as functions, and that they do what these do. -/
/-! X_isWithin (III)Z -/
-- names: 
-- fields: ; arrays: ; out: [('ret', None)]
abbrev zy_X_isWithin : zNL := (0, [], [], [], [])
theorem zyw_X_isWithin : zv_wf zy_X_isWithin = true := by decide +kernel
theorem zye_X_isWithin : zv_ek2 zy_X_isWithin = true := by decide +kernel
def zf_X_isWithin (x0 : Int) (x1 : Int) (x2 : Int) : Option (Int) := if x0 < x1 then (some 0) else (if x2 < x0 then (some 0) else (some 1))
theorem zd15_0 : decode zxm15.2.1 0 = .ok (.iload_n 0, 1) := by decide +kernel
theorem zd15_1 : decode zxm15.2.1 1 = .ok (.iload_n 1, 1) := by decide +kernel
theorem zd15_2 : decode zxm15.2.1 2 = .ok (.if_icmp .lt 12, 3) := by decide +kernel
theorem zd15_5 : decode zxm15.2.1 5 = .ok (.iload_n 0, 1) := by decide +kernel
theorem zd15_6 : decode zxm15.2.1 6 = .ok (.iload_n 2, 1) := by decide +kernel
theorem zd15_7 : decode zxm15.2.1 7 = .ok (.if_icmp .gt 7, 3) := by decide +kernel
theorem zd15_10 : decode zxm15.2.1 10 = .ok (.iconst 1, 1) := by decide +kernel
theorem zd15_11 : decode zxm15.2.1 11 = .ok (.goto 4, 3) := by decide +kernel
theorem zd15_14 : decode zxm15.2.1 14 = .ok (.iconst 0, 1) := by decide +kernel
theorem zd15_15 : decode zxm15.2.1 15 = .ok (.ireturn, 1) := by decide +kernel
theorem zt_X_isWithin {x0 : Int} {x1 : Int} {x2 : Int} {o : Int} (h : zf_X_isWithin x0 x1 x2 = some o) : zv_Fn z_TB z_cl z_KX zy_X_isWithin zxm15 (0, 0) [.inl x0, .inl x1, .inl x2] [] [] (some o) [] [] := zv_meth (K := (z_KF0, z_KC0, z_KL0, z_KT0, [], [], [], none)) (FT := z_FT) (MT := z_MT) (n := 3) zxp15 (z_ks0 _ (fun _ h => List.mem_cons_of_mem _ h) _ _ _ _ (fun j r h _ => by cases h)) (fun _ _ => zs_KX_p) zyw_X_isWithin (fun va F G h => by obtain ⟨rfl, _⟩ := h; rfl) (fun va F G h => by obtain ⟨rfl, _⟩ := h; rfl) rfl fun good va F G hB hret hvret hP => by
  obtain ⟨rfl, rfl, rfl⟩ := hP
  unfold zf_X_isWithin at h
  refine zv_ild hB zd15_0 rfl rfl ?_
  refine zv_ild hB zd15_1 rfl rfl ?_
  refine zv_clt hB zd15_2 rfl (fun hc1 => ?_) (fun hc1 => ?_)
  · rw [if_pos hc1] at h
    refine zv_con hB zd15_14 rfl ?_
    have hw := Option.some.inj h
    subst hw
    exact hret _ _ _ _ _ zd15_15 (by constructor <;> decide) ⟨rfl, rfl, rfl⟩
  · rw [if_neg (Int.not_lt.mpr hc1)] at h
    refine zv_ild hB zd15_5 rfl rfl ?_
    refine zv_ild hB zd15_6 rfl rfl ?_
    refine zv_cgt hB zd15_7 rfl (fun hc2 => ?_) (fun hc2 => ?_)
    · rw [if_pos hc2] at h
      refine zv_con hB zd15_14 rfl ?_
      have hw := Option.some.inj h
      subst hw
      exact hret _ _ _ _ _ zd15_15 (by constructor <;> decide) ⟨rfl, rfl, rfl⟩
    · rw [if_neg (Int.not_lt.mpr hc2)] at h
      refine zv_con hB zd15_10 rfl ?_
      refine zv_goto hB zd15_11 rfl ?_
      have hw := Option.some.inj h
      subst hw
      exact hret _ _ _ _ _ zd15_15 (by constructor <;> decide) ⟨rfl, rfl, rfl⟩
/-! X_isPlace (II)Z -/
-- names: 
-- fields: ; arrays: ; out: [('ret', None)]
abbrev zy_X_isPlace : zNL := (0, [], [], [], [])
theorem zyw_X_isPlace : zv_wf zy_X_isPlace = true := by decide +kernel
theorem zye_X_isPlace : zv_ek2 zy_X_isPlace = true := by decide +kernel
def zf_X_isPlace (x0 : Int) (x1 : Int) : Option (Int) := if x0 < 0 then (some 0) else (if x0 < 24 then (if x1 < 0 then (some 0) else (if x1 < 12 then (some 1) else (some 0))) else (some 0))
theorem zd16_0 : decode zxm16.2.1 0 = .ok (.iload_n 0, 1) := by decide +kernel
theorem zd16_1 : decode zxm16.2.1 1 = .ok (.ifCond .lt 23, 3) := by decide +kernel
theorem zd16_4 : decode zxm16.2.1 4 = .ok (.iload_n 0, 1) := by decide +kernel
theorem zd16_5 : decode zxm16.2.1 5 = .ok (.bipush 24, 2) := by decide +kernel
theorem zd16_7 : decode zxm16.2.1 7 = .ok (.if_icmp .ge 17, 3) := by decide +kernel
theorem zd16_10 : decode zxm16.2.1 10 = .ok (.iload_n 1, 1) := by decide +kernel
theorem zd16_11 : decode zxm16.2.1 11 = .ok (.ifCond .lt 13, 3) := by decide +kernel
theorem zd16_14 : decode zxm16.2.1 14 = .ok (.iload_n 1, 1) := by decide +kernel
theorem zd16_15 : decode zxm16.2.1 15 = .ok (.bipush 12, 2) := by decide +kernel
theorem zd16_17 : decode zxm16.2.1 17 = .ok (.if_icmp .ge 7, 3) := by decide +kernel
theorem zd16_20 : decode zxm16.2.1 20 = .ok (.iconst 1, 1) := by decide +kernel
theorem zd16_21 : decode zxm16.2.1 21 = .ok (.goto 4, 3) := by decide +kernel
theorem zd16_24 : decode zxm16.2.1 24 = .ok (.iconst 0, 1) := by decide +kernel
theorem zd16_25 : decode zxm16.2.1 25 = .ok (.ireturn, 1) := by decide +kernel
theorem zt_X_isPlace {x0 : Int} {x1 : Int} {o : Int} (h : zf_X_isPlace x0 x1 = some o) : zv_Fn z_TB z_cl z_KX zy_X_isPlace zxm16 (0, 0) [.inl x0, .inl x1] [] [] (some o) [] [] := zv_meth (K := (z_KF0, z_KC0, z_KL0, z_KT0, [], [], [], none)) (FT := z_FT) (MT := z_MT) (n := 2) zxp16 (z_ks0 _ (fun _ h => List.mem_cons_of_mem _ h) _ _ _ _ (fun j r h _ => by cases h)) (fun _ _ => zs_KX_p) zyw_X_isPlace (fun va F G h => by obtain ⟨rfl, _⟩ := h; rfl) (fun va F G h => by obtain ⟨rfl, _⟩ := h; rfl) rfl fun good va F G hB hret hvret hP => by
  obtain ⟨rfl, rfl, rfl⟩ := hP
  unfold zf_X_isPlace at h
  refine zv_ild hB zd16_0 rfl rfl ?_
  refine zv_zlt hB zd16_1 rfl (fun hc1 => ?_) (fun hc1 => ?_)
  · rw [if_pos hc1] at h
    refine zv_con hB zd16_24 rfl ?_
    have hw := Option.some.inj h
    subst hw
    exact hret _ _ _ _ _ zd16_25 (by constructor <;> decide) ⟨rfl, rfl, rfl⟩
  · rw [if_neg (Int.not_lt.mpr hc1)] at h
    refine zv_ild hB zd16_4 rfl rfl ?_
    refine zv_con hB zd16_5 rfl ?_
    refine zv_cge hB zd16_7 rfl (fun hc2 => ?_) (fun hc2 => ?_)
    · rw [if_neg (Int.not_lt.mpr hc2)] at h
      refine zv_con hB zd16_24 rfl ?_
      have hw := Option.some.inj h
      subst hw
      exact hret _ _ _ _ _ zd16_25 (by constructor <;> decide) ⟨rfl, rfl, rfl⟩
    · rw [if_pos hc2] at h
      refine zv_ild hB zd16_10 rfl rfl ?_
      refine zv_zlt hB zd16_11 rfl (fun hc3 => ?_) (fun hc3 => ?_)
      · rw [if_pos hc3] at h
        refine zv_con hB zd16_24 rfl ?_
        have hw := Option.some.inj h
        subst hw
        exact hret _ _ _ _ _ zd16_25 (by constructor <;> decide) ⟨rfl, rfl, rfl⟩
      · rw [if_neg (Int.not_lt.mpr hc3)] at h
        refine zv_ild hB zd16_14 rfl rfl ?_
        refine zv_con hB zd16_15 rfl ?_
        refine zv_cge hB zd16_17 rfl (fun hc4 => ?_) (fun hc4 => ?_)
        · rw [if_neg (Int.not_lt.mpr hc4)] at h
          refine zv_con hB zd16_24 rfl ?_
          have hw := Option.some.inj h
          subst hw
          exact hret _ _ _ _ _ zd16_25 (by constructor <;> decide) ⟨rfl, rfl, rfl⟩
        · rw [if_pos hc4] at h
          refine zv_con hB zd16_20 rfl ?_
          refine zv_goto hB zd16_21 rfl ?_
          have hw := Option.some.inj h
          subst hw
          exact hret _ _ _ _ _ zd16_25 (by constructor <;> decide) ⟨rfl, rfl, rfl⟩
/-! X_star (IIII)Z -/
-- names: 0 StarTales('arg', 0), 1 Sky(0, 0, 0), 2 (0, 24)(1, 1, 1), 3 (0, 24)(1, 1, 2), 4 (0, 24)(1, 1, 3), 5 (0, 24)(1, 1, 4), 6 (0, 24)(1, 1, 5)
-- fields: f0 = 1.told_; arrays: g0 = 2, g1 = 3, g2 = 4, g3 = 5, g4 = 6; out: [('ret', None), ('f', 0), ('g', 0), ('g', 1), ('g', 2), ('g', 3), ('g', 4)]
abbrev zy_X_star : zNL := (7, [(0, 0), (1, 1)], [(1, 1, 0, 0)], [(0, 0, 0, 1), (1, 1, 1, 2), (1, 1, 2, 3), (1, 1, 3, 4), (1, 1, 4, 5), (1, 1, 5, 6)], [(2, 0, 24, 0), (3, 0, 24, 1), (4, 0, 24, 2), (5, 0, 24, 3), (6, 0, 24, 4)])
theorem zyw_X_star : zv_wf zy_X_star = true := by decide +kernel
theorem zye_X_star : zv_ek2 zy_X_star = true := by decide +kernel
def zf_X_star (x1 : Int) (x2 : Int) (x3 : Int) (x4 : Int) (f0 : Int) (g0 : (Int → Int)) (g1 : (Int → Int)) (g2 : (Int → Int)) (g3 : (Int → Int)) (g4 : (Int → Int)) : Option (Int × Int × (Int → Int) × (Int → Int) × (Int → Int) × (Int → Int) × (Int → Int)) := (zf_X_isWithin x1 0 23).bind fun r1 => (if r1 = 0 then (some (0, f0, g0, g1, g2, g3, g4)) else ((zf_X_isPlace x2 x3).bind fun r3 => (if r3 = 0 then (some (0, f0, g0, g1, g2, g3, g4)) else ((zf_X_isWithin x4 1 9).bind fun r5 => (if r5 = 0 then (some (0, f0, g0, g1, g2, g3, g4)) else (cond (zi_ix x1 24) (some (1, (zi_or f0 (zi_shl 1 x1)), (zv_up g0 x1 x2), (zv_up g1 x1 x3), (zv_up g2 x1 x4), (zv_up g3 x1 0), (zv_up g4 x1 0))) none))))))
theorem zd14_0 : decode zxm14.2.1 0 = .ok (.iload_n 1, 1) := by decide +kernel
theorem zd14_1 : decode zxm14.2.1 1 = .ok (.iconst 0, 1) := by decide +kernel
theorem zd14_2 : decode zxm14.2.1 2 = .ok (.bipush 23, 2) := by decide +kernel
theorem zd14_4 : decode zxm14.2.1 4 = .ok (.invokestatic 126, 3) := by decide +kernel
theorem zd14_7 : decode zxm14.2.1 7 = .ok (.ifCond .eq 22, 3) := by decide +kernel
theorem zd14_10 : decode zxm14.2.1 10 = .ok (.iload_n 2, 1) := by decide +kernel
theorem zd14_11 : decode zxm14.2.1 11 = .ok (.iload_n 3, 1) := by decide +kernel
theorem zd14_12 : decode zxm14.2.1 12 = .ok (.invokestatic 130, 3) := by decide +kernel
theorem zd14_15 : decode zxm14.2.1 15 = .ok (.ifCond .eq 14, 3) := by decide +kernel
theorem zd14_18 : decode zxm14.2.1 18 = .ok (.iload 4, 2) := by decide +kernel
theorem zd14_20 : decode zxm14.2.1 20 = .ok (.iconst 1, 1) := by decide +kernel
theorem zd14_21 : decode zxm14.2.1 21 = .ok (.bipush 9, 2) := by decide +kernel
theorem zd14_23 : decode zxm14.2.1 23 = .ok (.invokestatic 126, 3) := by decide +kernel
theorem zd14_26 : decode zxm14.2.1 26 = .ok (.ifCond .ne 5, 3) := by decide +kernel
theorem zd14_29 : decode zxm14.2.1 29 = .ok (.iconst 0, 1) := by decide +kernel
theorem zd14_30 : decode zxm14.2.1 30 = .ok (.ireturn, 1) := by decide +kernel
theorem zd14_31 : decode zxm14.2.1 31 = .ok (.aload_n 0, 1) := by decide +kernel
theorem zd14_32 : decode zxm14.2.1 32 = .ok (.getfield 10, 3) := by decide +kernel
theorem zd14_35 : decode zxm14.2.1 35 = .ok (.dup, 1) := by decide +kernel
theorem zd14_36 : decode zxm14.2.1 36 = .ok (.getfield 134, 3) := by decide +kernel
theorem zd14_39 : decode zxm14.2.1 39 = .ok (.iconst 1, 1) := by decide +kernel
theorem zd14_40 : decode zxm14.2.1 40 = .ok (.iload_n 1, 1) := by decide +kernel
theorem zd14_41 : decode zxm14.2.1 41 = .ok (.ishl, 1) := by decide +kernel
theorem zd14_42 : decode zxm14.2.1 42 = .ok (.ior, 1) := by decide +kernel
theorem zd14_43 : decode zxm14.2.1 43 = .ok (.putfield 134, 3) := by decide +kernel
theorem zd14_46 : decode zxm14.2.1 46 = .ok (.aload_n 0, 1) := by decide +kernel
theorem zd14_47 : decode zxm14.2.1 47 = .ok (.getfield 10, 3) := by decide +kernel
theorem zd14_50 : decode zxm14.2.1 50 = .ok (.getfield 138, 3) := by decide +kernel
theorem zd14_53 : decode zxm14.2.1 53 = .ok (.iload_n 1, 1) := by decide +kernel
theorem zd14_54 : decode zxm14.2.1 54 = .ok (.iload_n 2, 1) := by decide +kernel
theorem zd14_55 : decode zxm14.2.1 55 = .ok (.iastore, 1) := by decide +kernel
theorem zd14_56 : decode zxm14.2.1 56 = .ok (.aload_n 0, 1) := by decide +kernel
theorem zd14_57 : decode zxm14.2.1 57 = .ok (.getfield 10, 3) := by decide +kernel
theorem zd14_60 : decode zxm14.2.1 60 = .ok (.getfield 141, 3) := by decide +kernel
theorem zd14_63 : decode zxm14.2.1 63 = .ok (.iload_n 1, 1) := by decide +kernel
theorem zd14_64 : decode zxm14.2.1 64 = .ok (.iload_n 3, 1) := by decide +kernel
theorem zd14_65 : decode zxm14.2.1 65 = .ok (.iastore, 1) := by decide +kernel
theorem zd14_66 : decode zxm14.2.1 66 = .ok (.aload_n 0, 1) := by decide +kernel
theorem zd14_67 : decode zxm14.2.1 67 = .ok (.getfield 10, 3) := by decide +kernel
theorem zd14_70 : decode zxm14.2.1 70 = .ok (.getfield 144, 3) := by decide +kernel
theorem zd14_73 : decode zxm14.2.1 73 = .ok (.iload_n 1, 1) := by decide +kernel
theorem zd14_74 : decode zxm14.2.1 74 = .ok (.iload 4, 2) := by decide +kernel
theorem zd14_76 : decode zxm14.2.1 76 = .ok (.iastore, 1) := by decide +kernel
theorem zd14_77 : decode zxm14.2.1 77 = .ok (.aload_n 0, 1) := by decide +kernel
theorem zd14_78 : decode zxm14.2.1 78 = .ok (.getfield 10, 3) := by decide +kernel
theorem zd14_81 : decode zxm14.2.1 81 = .ok (.getfield 147, 3) := by decide +kernel
theorem zd14_84 : decode zxm14.2.1 84 = .ok (.iload_n 1, 1) := by decide +kernel
theorem zd14_85 : decode zxm14.2.1 85 = .ok (.iconst 0, 1) := by decide +kernel
theorem zd14_86 : decode zxm14.2.1 86 = .ok (.iastore, 1) := by decide +kernel
theorem zd14_87 : decode zxm14.2.1 87 = .ok (.aload_n 0, 1) := by decide +kernel
theorem zd14_88 : decode zxm14.2.1 88 = .ok (.getfield 10, 3) := by decide +kernel
theorem zd14_91 : decode zxm14.2.1 91 = .ok (.getfield 150, 3) := by decide +kernel
theorem zd14_94 : decode zxm14.2.1 94 = .ok (.iload_n 1, 1) := by decide +kernel
theorem zd14_95 : decode zxm14.2.1 95 = .ok (.iconst 0, 1) := by decide +kernel
theorem zd14_96 : decode zxm14.2.1 96 = .ok (.iastore, 1) := by decide +kernel
theorem zd14_97 : decode zxm14.2.1 97 = .ok (.iconst 1, 1) := by decide +kernel
theorem zd14_98 : decode zxm14.2.1 98 = .ok (.ireturn, 1) := by decide +kernel
theorem zt_X_star {x1 : Int} {x2 : Int} {x3 : Int} {x4 : Int} {f0 : Int} {g0 : (Int → Int)} {g1 : (Int → Int)} {g2 : (Int → Int)} {g3 : (Int → Int)} {g4 : (Int → Int)} {o : Int × Int × (Int → Int) × (Int → Int) × (Int → Int) × (Int → Int) × (Int → Int)} (h : zf_X_star x1 x2 x3 x4 f0 g0 g1 g2 g3 g4 = some o) : zv_Fn z_TB z_cl z_KX zy_X_star zxm14 (1, 60) [.inr 0, .inl x1, .inl x2, .inl x3, .inl x4] [.inl f0] [g0, g1, g2, g3, g4] (some o.1) [.inl o.2.1] [o.2.2.1, o.2.2.2.1, o.2.2.2.2.1, o.2.2.2.2.2.1, o.2.2.2.2.2.2] := zv_meth (K := (z_KF0, z_KC0, z_KL0, z_KT0, [], [], [], none)) (FT := z_FT) (MT := z_MT) (n := 5) zxp14 (z_ks0 _ (fun _ h => List.mem_cons_of_mem _ h) _ _ _ _ (fun j r h _ => by cases h)) (fun _ _ => zs_KX_p) zyw_X_star (fun va F G h => by obtain ⟨rfl, _⟩ := h; rfl) (fun va F G h => by obtain ⟨rfl, _⟩ := h; rfl) rfl fun good va F G hB hret hvret hP => by
  obtain ⟨rfl, rfl, rfl⟩ := hP
  unfold zf_X_star at h
  refine zv_ild hB zd14_0 rfl rfl ?_
  refine zv_con hB zd14_1 rfl ?_
  refine zv_con hB zd14_2 rfl ?_
  obtain ⟨r1, hr1, h⟩ := zi_bind h
  refine zv_cs hB (zv_emq (va2 := [.inl x1, .inl 0, .inl 23]) (F := [.inl f0]) (F' := [.inl f0]) (G := [g0, g1, g2, g3, g4]) (G' := [g0, g1, g2, g3, g4]) (ρ := []) (φ := []) (ψ := []) [none] [none, none, none, none, none] zyw_X_isWithin zyw_X_star zye_X_star (by decide +kernel) (zt_X_isWithin hr1) trivial trivial rfl rfl rfl rfl rfl rfl rfl) zd14_4 zxt15 rfl (by decide) (by decide) rfl ?_
  refine zv_zeq hB zd14_7 rfl (fun hc2 => ?_) (fun hc2 => ?_)
  · rw [if_pos hc2] at h
    refine zv_con hB zd14_29 rfl ?_
    have hw := Option.some.inj h
    subst hw
    exact hret _ _ _ _ _ zd14_30 (by constructor <;> decide) ⟨rfl, rfl, rfl⟩
  · rw [if_neg hc2] at h
    refine zv_ild hB zd14_10 rfl rfl ?_
    refine zv_ild hB zd14_11 rfl rfl ?_
    obtain ⟨r3, hr3, h⟩ := zi_bind h
    refine zv_cs hB (zv_emq (va2 := [.inl x2, .inl x3]) (F := [.inl f0]) (F' := [.inl f0]) (G := [g0, g1, g2, g3, g4]) (G' := [g0, g1, g2, g3, g4]) (ρ := []) (φ := []) (ψ := []) [none] [none, none, none, none, none] zyw_X_isPlace zyw_X_star zye_X_star (by decide +kernel) (zt_X_isPlace hr3) trivial trivial rfl rfl rfl rfl rfl rfl rfl) zd14_12 zxt16 rfl (by decide) (by decide) rfl ?_
    refine zv_zeq hB zd14_15 rfl (fun hc4 => ?_) (fun hc4 => ?_)
    · rw [if_pos hc4] at h
      refine zv_con hB zd14_29 rfl ?_
      have hw := Option.some.inj h
      subst hw
      exact hret _ _ _ _ _ zd14_30 (by constructor <;> decide) ⟨rfl, rfl, rfl⟩
    · rw [if_neg hc4] at h
      refine zv_ild hB zd14_18 rfl rfl ?_
      refine zv_con hB zd14_20 rfl ?_
      refine zv_con hB zd14_21 rfl ?_
      obtain ⟨r5, hr5, h⟩ := zi_bind h
      refine zv_cs hB (zv_emq (va2 := [.inl x4, .inl 1, .inl 9]) (F := [.inl f0]) (F' := [.inl f0]) (G := [g0, g1, g2, g3, g4]) (G' := [g0, g1, g2, g3, g4]) (ρ := []) (φ := []) (ψ := []) [none] [none, none, none, none, none] zyw_X_isWithin zyw_X_star zye_X_star (by decide +kernel) (zt_X_isWithin hr5) trivial trivial rfl rfl rfl rfl rfl rfl rfl) zd14_23 zxt15 rfl (by decide) (by decide) rfl ?_
      refine zv_zne hB zd14_26 rfl (fun hc6 => ?_) (fun hc6 => ?_)
      · rw [if_neg hc6] at h
        refine zv_ald hB zd14_31 rfl rfl rfl ?_
        refine zv_getr hB zd14_32 rfl ?_
        refine zv_dup hB zd14_35 rfl ?_
        refine zv_getf hB zd14_36 rfl rfl (fun _ _ => ?_)
        refine zv_con hB zd14_39 rfl ?_
        refine zv_ild hB zd14_40 rfl rfl ?_
        refine zv_shlw hB zd14_41 ?_
        refine zv_orw hB zd14_42 ?_
        refine zv_putf hB zd14_43 rfl rfl (fun h => by cases h) rfl ?_
        refine zv_ald hB zd14_46 rfl rfl rfl ?_
        refine zv_getr hB zd14_47 rfl ?_
        refine zv_getr hB zd14_50 rfl ?_
        refine zv_ild hB zd14_53 rfl rfl ?_
        refine zv_ild hB zd14_54 rfl rfl ?_
        obtain ⟨c7, h⟩ := zi_if h
        refine zv_iast hB zd14_55 rfl rfl (zi_ix_ok c7).1 (zi_ix_ok c7).2 ?_
        refine zv_ald hB zd14_56 rfl rfl rfl ?_
        refine zv_getr hB zd14_57 rfl ?_
        refine zv_getr hB zd14_60 rfl ?_
        refine zv_ild hB zd14_63 rfl rfl ?_
        refine zv_ild hB zd14_64 rfl rfl ?_
        refine zv_iast hB zd14_65 rfl rfl (zi_ix_ok c7).1 (zi_ix_ok c7).2 ?_
        refine zv_ald hB zd14_66 rfl rfl rfl ?_
        refine zv_getr hB zd14_67 rfl ?_
        refine zv_getr hB zd14_70 rfl ?_
        refine zv_ild hB zd14_73 rfl rfl ?_
        refine zv_ild hB zd14_74 rfl rfl ?_
        refine zv_iast hB zd14_76 rfl rfl (zi_ix_ok c7).1 (zi_ix_ok c7).2 ?_
        refine zv_ald hB zd14_77 rfl rfl rfl ?_
        refine zv_getr hB zd14_78 rfl ?_
        refine zv_getr hB zd14_81 rfl ?_
        refine zv_ild hB zd14_84 rfl rfl ?_
        refine zv_con hB zd14_85 rfl ?_
        refine zv_iast hB zd14_86 rfl rfl (zi_ix_ok c7).1 (zi_ix_ok c7).2 ?_
        refine zv_ald hB zd14_87 rfl rfl rfl ?_
        refine zv_getr hB zd14_88 rfl ?_
        refine zv_getr hB zd14_91 rfl ?_
        refine zv_ild hB zd14_94 rfl rfl ?_
        refine zv_con hB zd14_95 rfl ?_
        refine zv_iast hB zd14_96 rfl rfl (zi_ix_ok c7).1 (zi_ix_ok c7).2 ?_
        refine zv_con hB zd14_97 rfl ?_
        have hw := Option.some.inj h
        subst hw
        exact hret _ _ _ _ _ zd14_98 (by constructor <;> decide) ⟨rfl, rfl, rfl⟩
      · rw [if_pos hc6] at h
        refine zv_con hB zd14_29 rfl ?_
        have hw := Option.some.inj h
        subst hw
        exact hret _ _ _ _ _ zd14_30 (by constructor <;> decide) ⟨rfl, rfl, rfl⟩
/-! Sky_hasStar (I)Z -/
-- names: 0 Sky('arg', 0)
-- fields: f0 = 0.told_; arrays: ; out: [('ret', None)]
abbrev zy_Sky_hasStar : zNL := (1, [(0, 1)], [(0, 1, 0, 0)], [], [])
theorem zyw_Sky_hasStar : zv_wf zy_Sky_hasStar = true := by decide +kernel
theorem zye_Sky_hasStar : zv_ek2 zy_Sky_hasStar = true := by decide +kernel
def zf_Sky_hasStar (x1 : Int) (f0 : Int) : Option (Int) := if x1 < 0 then (some 0) else (if x1 < 24 then (if (zi_and (zi_shr f0 x1) 1) = 0 then (some 0) else (some 1)) else (some 0))
theorem zd18_0 : decode zxm18.2.1 0 = .ok (.iload_n 1, 1) := by decide +kernel
theorem zd18_1 : decode zxm18.2.1 1 = .ok (.ifCond .lt 24, 3) := by decide +kernel
theorem zd18_4 : decode zxm18.2.1 4 = .ok (.iload_n 1, 1) := by decide +kernel
theorem zd18_5 : decode zxm18.2.1 5 = .ok (.bipush 24, 2) := by decide +kernel
theorem zd18_7 : decode zxm18.2.1 7 = .ok (.if_icmp .ge 18, 3) := by decide +kernel
theorem zd18_10 : decode zxm18.2.1 10 = .ok (.aload_n 0, 1) := by decide +kernel
theorem zd18_11 : decode zxm18.2.1 11 = .ok (.getfield 9, 3) := by decide +kernel
theorem zd18_14 : decode zxm18.2.1 14 = .ok (.iload_n 1, 1) := by decide +kernel
theorem zd18_15 : decode zxm18.2.1 15 = .ok (.ishr, 1) := by decide +kernel
theorem zd18_16 : decode zxm18.2.1 16 = .ok (.iconst 1, 1) := by decide +kernel
theorem zd18_17 : decode zxm18.2.1 17 = .ok (.iand, 1) := by decide +kernel
theorem zd18_18 : decode zxm18.2.1 18 = .ok (.ifCond .eq 7, 3) := by decide +kernel
theorem zd18_21 : decode zxm18.2.1 21 = .ok (.iconst 1, 1) := by decide +kernel
theorem zd18_22 : decode zxm18.2.1 22 = .ok (.goto 4, 3) := by decide +kernel
theorem zd18_25 : decode zxm18.2.1 25 = .ok (.iconst 0, 1) := by decide +kernel
theorem zd18_26 : decode zxm18.2.1 26 = .ok (.ireturn, 1) := by decide +kernel
theorem zt_Sky_hasStar {x1 : Int} {f0 : Int} {o : Int} (h : zf_Sky_hasStar x1 f0 = some o) : zv_Fn z_TB z_cl z_KX zy_Sky_hasStar zxm18 (0, 0) [.inr 0, .inl x1] [.inl f0] [] (some o) [.inl f0] [] := zv_meth (K := (z_KF8, z_KC8, z_KL8, z_KT8, [], [], [], none)) (FT := z_FT) (MT := z_MT) (n := 2) zxp18 (z_ks8 _ (fun _ h => List.mem_cons_of_mem _ h) _ _ _ _ (fun j r h _ => by cases h)) (fun _ _ => zs_KX_p) zyw_Sky_hasStar (fun va F G h => by obtain ⟨rfl, _⟩ := h; rfl) (fun va F G h => by obtain ⟨rfl, _⟩ := h; rfl) rfl fun good va F G hB hret hvret hP => by
  obtain ⟨rfl, rfl, rfl⟩ := hP
  unfold zf_Sky_hasStar at h
  refine zv_ild hB zd18_0 rfl rfl ?_
  refine zv_zlt hB zd18_1 rfl (fun hc1 => ?_) (fun hc1 => ?_)
  · rw [if_pos hc1] at h
    refine zv_con hB zd18_25 rfl ?_
    have hw := Option.some.inj h
    subst hw
    exact hret _ _ _ _ _ zd18_26 (by constructor <;> decide) ⟨rfl, rfl, rfl⟩
  · rw [if_neg (Int.not_lt.mpr hc1)] at h
    refine zv_ild hB zd18_4 rfl rfl ?_
    refine zv_con hB zd18_5 rfl ?_
    refine zv_cge hB zd18_7 rfl (fun hc2 => ?_) (fun hc2 => ?_)
    · rw [if_neg (Int.not_lt.mpr hc2)] at h
      refine zv_con hB zd18_25 rfl ?_
      have hw := Option.some.inj h
      subst hw
      exact hret _ _ _ _ _ zd18_26 (by constructor <;> decide) ⟨rfl, rfl, rfl⟩
    · rw [if_pos hc2] at h
      refine zv_ald hB zd18_10 rfl rfl rfl ?_
      refine zv_getf hB zd18_11 rfl rfl (fun _ _ => ?_)
      refine zv_ild hB zd18_14 rfl rfl ?_
      refine zv_shrw hB zd18_15 ?_
      refine zv_con hB zd18_16 rfl ?_
      refine zv_andw hB zd18_17 ?_
      refine zv_zeq hB zd18_18 rfl (fun hc3 => ?_) (fun hc3 => ?_)
      · rw [if_pos hc3] at h
        refine zv_con hB zd18_25 rfl ?_
        have hw := Option.some.inj h
        subst hw
        exact hret _ _ _ _ _ zd18_26 (by constructor <;> decide) ⟨rfl, rfl, rfl⟩
      · rw [if_neg hc3] at h
        refine zv_con hB zd18_21 rfl ?_
        refine zv_goto hB zd18_22 rfl ?_
        have hw := Option.some.inj h
        subst hw
        exact hret _ _ _ _ _ zd18_26 (by constructor <;> decide) ⟨rfl, rfl, rfl⟩
/-! X_walk (III)Z -/
-- names: 0 StarTales('arg', 0), 1 Sky(0, 0, 0), 2 (0, 24)(1, 1, 4), 3 (0, 24)(1, 1, 5)
-- fields: f0 = 1.told_; arrays: g0 = 2, g1 = 3; out: [('ret', None), ('g', 0), ('g', 1)]
abbrev zy_X_walk : zNL := (4, [(0, 0), (1, 1)], [(1, 1, 0, 0)], [(0, 0, 0, 1), (1, 1, 4, 2), (1, 1, 5, 3)], [(2, 0, 24, 0), (3, 0, 24, 1)])
theorem zyw_X_walk : zv_wf zy_X_walk = true := by decide +kernel
theorem zye_X_walk : zv_ek2 zy_X_walk = true := by decide +kernel
def zf_X_walk (x1 : Int) (x2 : Int) (x3 : Int) (f0 : Int) (g0 : (Int → Int)) (g1 : (Int → Int)) : Option (Int × (Int → Int) × (Int → Int)) := (zf_Sky_hasStar x1 f0).bind fun r1 => (if r1 = 0 then (some (0, g0, g1)) else ((zf_X_isWithin x2 (-3) 3).bind fun r3 => (if r3 = 0 then (some (0, g0, g1)) else ((zf_X_isWithin x3 (-3) 3).bind fun r5 => (if r5 = 0 then (some (0, g0, g1)) else (cond (zi_ix x1 24) (some (1, (zv_up g0 x1 x2), (zv_up g1 x1 x3))) none))))))
theorem zd17_0 : decode zxm17.2.1 0 = .ok (.aload_n 0, 1) := by decide +kernel
theorem zd17_1 : decode zxm17.2.1 1 = .ok (.getfield 10, 3) := by decide +kernel
theorem zd17_4 : decode zxm17.2.1 4 = .ok (.iload_n 1, 1) := by decide +kernel
theorem zd17_5 : decode zxm17.2.1 5 = .ok (.invokevirtual 153, 3) := by decide +kernel
theorem zd17_8 : decode zxm17.2.1 8 = .ok (.ifCond .eq 23, 3) := by decide +kernel
theorem zd17_11 : decode zxm17.2.1 11 = .ok (.iload_n 2, 1) := by decide +kernel
theorem zd17_12 : decode zxm17.2.1 12 = .ok (.bipush (-3), 2) := by decide +kernel
theorem zd17_14 : decode zxm17.2.1 14 = .ok (.iconst 3, 1) := by decide +kernel
theorem zd17_15 : decode zxm17.2.1 15 = .ok (.invokestatic 126, 3) := by decide +kernel
theorem zd17_18 : decode zxm17.2.1 18 = .ok (.ifCond .eq 13, 3) := by decide +kernel
theorem zd17_21 : decode zxm17.2.1 21 = .ok (.iload_n 3, 1) := by decide +kernel
theorem zd17_22 : decode zxm17.2.1 22 = .ok (.bipush (-3), 2) := by decide +kernel
theorem zd17_24 : decode zxm17.2.1 24 = .ok (.iconst 3, 1) := by decide +kernel
theorem zd17_25 : decode zxm17.2.1 25 = .ok (.invokestatic 126, 3) := by decide +kernel
theorem zd17_28 : decode zxm17.2.1 28 = .ok (.ifCond .ne 5, 3) := by decide +kernel
theorem zd17_31 : decode zxm17.2.1 31 = .ok (.iconst 0, 1) := by decide +kernel
theorem zd17_32 : decode zxm17.2.1 32 = .ok (.ireturn, 1) := by decide +kernel
theorem zd17_33 : decode zxm17.2.1 33 = .ok (.aload_n 0, 1) := by decide +kernel
theorem zd17_34 : decode zxm17.2.1 34 = .ok (.getfield 10, 3) := by decide +kernel
theorem zd17_37 : decode zxm17.2.1 37 = .ok (.getfield 147, 3) := by decide +kernel
theorem zd17_40 : decode zxm17.2.1 40 = .ok (.iload_n 1, 1) := by decide +kernel
theorem zd17_41 : decode zxm17.2.1 41 = .ok (.iload_n 2, 1) := by decide +kernel
theorem zd17_42 : decode zxm17.2.1 42 = .ok (.iastore, 1) := by decide +kernel
theorem zd17_43 : decode zxm17.2.1 43 = .ok (.aload_n 0, 1) := by decide +kernel
theorem zd17_44 : decode zxm17.2.1 44 = .ok (.getfield 10, 3) := by decide +kernel
theorem zd17_47 : decode zxm17.2.1 47 = .ok (.getfield 150, 3) := by decide +kernel
theorem zd17_50 : decode zxm17.2.1 50 = .ok (.iload_n 1, 1) := by decide +kernel
theorem zd17_51 : decode zxm17.2.1 51 = .ok (.iload_n 3, 1) := by decide +kernel
theorem zd17_52 : decode zxm17.2.1 52 = .ok (.iastore, 1) := by decide +kernel
theorem zd17_53 : decode zxm17.2.1 53 = .ok (.iconst 1, 1) := by decide +kernel
theorem zd17_54 : decode zxm17.2.1 54 = .ok (.ireturn, 1) := by decide +kernel
theorem zt_X_walk {x1 : Int} {x2 : Int} {x3 : Int} {f0 : Int} {g0 : (Int → Int)} {g1 : (Int → Int)} {o : Int × (Int → Int) × (Int → Int)} (h : zf_X_walk x1 x2 x3 f0 g0 g1 = some o) : zv_Fn z_TB z_cl z_KX zy_X_walk zxm17 (1, 60) [.inr 0, .inl x1, .inl x2, .inl x3] [.inl f0] [g0, g1] (some o.1) [.inl f0] [o.2.1, o.2.2] := zv_meth (K := (z_KF0, z_KC0, z_KL0, z_KT0, [], [], [], none)) (FT := z_FT) (MT := z_MT) (n := 4) zxp17 (z_ks0 _ (fun _ h => List.mem_cons_of_mem _ h) _ _ _ _ (fun j r h _ => by cases h)) (fun _ _ => zs_KX_p) zyw_X_walk (fun va F G h => by obtain ⟨rfl, _⟩ := h; rfl) (fun va F G h => by obtain ⟨rfl, _⟩ := h; rfl) rfl fun good va F G hB hret hvret hP => by
  obtain ⟨rfl, rfl, rfl⟩ := hP
  unfold zf_X_walk at h
  refine zv_ald hB zd17_0 rfl rfl rfl ?_
  refine zv_getr hB zd17_1 rfl ?_
  refine zv_ild hB zd17_4 rfl rfl ?_
  obtain ⟨r1, hr1, h⟩ := zi_bind h
  refine zv_cv hB (zv_emq (va2 := [.inr 1, .inl x1]) (F := [.inl f0]) (F' := [.inl f0]) (G := [g0, g1]) (G' := [g0, g1]) (ρ := [1]) (φ := [0]) (ψ := []) [some 0] [none, none] zyw_Sky_hasStar zyw_X_walk zye_X_walk (by decide +kernel) (zt_Sky_hasStar hr1) ⟨⟨_, rfl, fun _ => rfl⟩, trivial⟩ trivial rfl rfl rfl rfl rfl rfl rfl) zd17_5 zxt18 rfl (by decide) (by decide) rfl ?_
  refine zv_zeq hB zd17_8 rfl (fun hc2 => ?_) (fun hc2 => ?_)
  · rw [if_pos hc2] at h
    refine zv_con hB zd17_31 rfl ?_
    have hw := Option.some.inj h
    subst hw
    exact hret _ _ _ _ _ zd17_32 (by constructor <;> decide) ⟨rfl, rfl, rfl⟩
  · rw [if_neg hc2] at h
    refine zv_ild hB zd17_11 rfl rfl ?_
    refine zv_con hB zd17_12 rfl ?_
    refine zv_con hB zd17_14 rfl ?_
    obtain ⟨r3, hr3, h⟩ := zi_bind h
    refine zv_cs hB (zv_emq (va2 := [.inl x2, .inl (-3), .inl 3]) (F := [.inl f0]) (F' := [.inl f0]) (G := [g0, g1]) (G' := [g0, g1]) (ρ := []) (φ := []) (ψ := []) [none] [none, none] zyw_X_isWithin zyw_X_walk zye_X_walk (by decide +kernel) (zt_X_isWithin hr3) trivial trivial rfl rfl rfl rfl rfl rfl rfl) zd17_15 zxt15 rfl (by decide) (by decide) rfl ?_
    refine zv_zeq hB zd17_18 rfl (fun hc4 => ?_) (fun hc4 => ?_)
    · rw [if_pos hc4] at h
      refine zv_con hB zd17_31 rfl ?_
      have hw := Option.some.inj h
      subst hw
      exact hret _ _ _ _ _ zd17_32 (by constructor <;> decide) ⟨rfl, rfl, rfl⟩
    · rw [if_neg hc4] at h
      refine zv_ild hB zd17_21 rfl rfl ?_
      refine zv_con hB zd17_22 rfl ?_
      refine zv_con hB zd17_24 rfl ?_
      obtain ⟨r5, hr5, h⟩ := zi_bind h
      refine zv_cs hB (zv_emq (va2 := [.inl x3, .inl (-3), .inl 3]) (F := [.inl f0]) (F' := [.inl f0]) (G := [g0, g1]) (G' := [g0, g1]) (ρ := []) (φ := []) (ψ := []) [none] [none, none] zyw_X_isWithin zyw_X_walk zye_X_walk (by decide +kernel) (zt_X_isWithin hr5) trivial trivial rfl rfl rfl rfl rfl rfl rfl) zd17_25 zxt15 rfl (by decide) (by decide) rfl ?_
      refine zv_zne hB zd17_28 rfl (fun hc6 => ?_) (fun hc6 => ?_)
      · rw [if_neg hc6] at h
        refine zv_ald hB zd17_33 rfl rfl rfl ?_
        refine zv_getr hB zd17_34 rfl ?_
        refine zv_getr hB zd17_37 rfl ?_
        refine zv_ild hB zd17_40 rfl rfl ?_
        refine zv_ild hB zd17_41 rfl rfl ?_
        obtain ⟨c7, h⟩ := zi_if h
        refine zv_iast hB zd17_42 rfl rfl (zi_ix_ok c7).1 (zi_ix_ok c7).2 ?_
        refine zv_ald hB zd17_43 rfl rfl rfl ?_
        refine zv_getr hB zd17_44 rfl ?_
        refine zv_getr hB zd17_47 rfl ?_
        refine zv_ild hB zd17_50 rfl rfl ?_
        refine zv_ild hB zd17_51 rfl rfl ?_
        refine zv_iast hB zd17_52 rfl rfl (zi_ix_ok c7).1 (zi_ix_ok c7).2 ?_
        refine zv_con hB zd17_53 rfl ?_
        have hw := Option.some.inj h
        subst hw
        exact hret _ _ _ _ _ zd17_54 (by constructor <;> decide) ⟨rfl, rfl, rfl⟩
      · rw [if_pos hc6] at h
        refine zv_con hB zd17_31 rfl ?_
        have hw := Option.some.inj h
        subst hw
        exact hret _ _ _ _ _ zd17_32 (by constructor <;> decide) ⟨rfl, rfl, rfl⟩
/-! X_gone (I)Z -/
-- names: 0 StarTales('arg', 0), 1 Sky(0, 0, 0)
-- fields: f0 = 1.told_; arrays: ; out: [('ret', None), ('f', 0)]
abbrev zy_X_gone : zNL := (2, [(0, 0), (1, 1)], [(1, 1, 0, 0)], [(0, 0, 0, 1)], [])
theorem zyw_X_gone : zv_wf zy_X_gone = true := by decide +kernel
theorem zye_X_gone : zv_ek2 zy_X_gone = true := by decide +kernel
def zf_X_gone (x1 : Int) (f0 : Int) : Option (Int × Int) := (zf_Sky_hasStar x1 f0).bind fun r1 => (if r1 = 0 then (some (0, f0)) else (some (1, (zi_and f0 (zi_xor (zi_shl 1 x1) (-1))))))
theorem zd19_0 : decode zxm19.2.1 0 = .ok (.aload_n 0, 1) := by decide +kernel
theorem zd19_1 : decode zxm19.2.1 1 = .ok (.getfield 10, 3) := by decide +kernel
theorem zd19_4 : decode zxm19.2.1 4 = .ok (.iload_n 1, 1) := by decide +kernel
theorem zd19_5 : decode zxm19.2.1 5 = .ok (.invokevirtual 153, 3) := by decide +kernel
theorem zd19_8 : decode zxm19.2.1 8 = .ok (.ifCond .ne 5, 3) := by decide +kernel
theorem zd19_11 : decode zxm19.2.1 11 = .ok (.iconst 0, 1) := by decide +kernel
theorem zd19_12 : decode zxm19.2.1 12 = .ok (.ireturn, 1) := by decide +kernel
theorem zd19_13 : decode zxm19.2.1 13 = .ok (.aload_n 0, 1) := by decide +kernel
theorem zd19_14 : decode zxm19.2.1 14 = .ok (.getfield 10, 3) := by decide +kernel
theorem zd19_17 : decode zxm19.2.1 17 = .ok (.dup, 1) := by decide +kernel
theorem zd19_18 : decode zxm19.2.1 18 = .ok (.getfield 134, 3) := by decide +kernel
theorem zd19_21 : decode zxm19.2.1 21 = .ok (.iconst 1, 1) := by decide +kernel
theorem zd19_22 : decode zxm19.2.1 22 = .ok (.iload_n 1, 1) := by decide +kernel
theorem zd19_23 : decode zxm19.2.1 23 = .ok (.ishl, 1) := by decide +kernel
theorem zd19_24 : decode zxm19.2.1 24 = .ok (.iconst (-1), 1) := by decide +kernel
theorem zd19_25 : decode zxm19.2.1 25 = .ok (.ixor, 1) := by decide +kernel
theorem zd19_26 : decode zxm19.2.1 26 = .ok (.iand, 1) := by decide +kernel
theorem zd19_27 : decode zxm19.2.1 27 = .ok (.putfield 134, 3) := by decide +kernel
theorem zd19_30 : decode zxm19.2.1 30 = .ok (.iconst 1, 1) := by decide +kernel
theorem zd19_31 : decode zxm19.2.1 31 = .ok (.ireturn, 1) := by decide +kernel
theorem zt_X_gone {x1 : Int} {f0 : Int} {o : Int × Int} (h : zf_X_gone x1 f0 = some o) : zv_Fn z_TB z_cl z_KX zy_X_gone zxm19 (1, 60) [.inr 0, .inl x1] [.inl f0] [] (some o.1) [.inl o.2] [] := zv_meth (K := (z_KF0, z_KC0, z_KL0, z_KT0, [], [], [], none)) (FT := z_FT) (MT := z_MT) (n := 2) zxp19 (z_ks0 _ (fun _ h => List.mem_cons_of_mem _ h) _ _ _ _ (fun j r h _ => by cases h)) (fun _ _ => zs_KX_p) zyw_X_gone (fun va F G h => by obtain ⟨rfl, _⟩ := h; rfl) (fun va F G h => by obtain ⟨rfl, _⟩ := h; rfl) rfl fun good va F G hB hret hvret hP => by
  obtain ⟨rfl, rfl, rfl⟩ := hP
  unfold zf_X_gone at h
  refine zv_ald hB zd19_0 rfl rfl rfl ?_
  refine zv_getr hB zd19_1 rfl ?_
  refine zv_ild hB zd19_4 rfl rfl ?_
  obtain ⟨r1, hr1, h⟩ := zi_bind h
  refine zv_cv hB (zv_emq (va2 := [.inr 1, .inl x1]) (F := [.inl f0]) (F' := [.inl f0]) (G := []) (G' := []) (ρ := [1]) (φ := [0]) (ψ := []) [some 0] [] zyw_Sky_hasStar zyw_X_gone zye_X_gone (by decide +kernel) (zt_Sky_hasStar hr1) ⟨⟨_, rfl, fun _ => rfl⟩, trivial⟩ trivial rfl rfl rfl rfl rfl rfl rfl) zd19_5 zxt18 rfl (by decide) (by decide) rfl ?_
  refine zv_zne hB zd19_8 rfl (fun hc2 => ?_) (fun hc2 => ?_)
  · rw [if_neg hc2] at h
    refine zv_ald hB zd19_13 rfl rfl rfl ?_
    refine zv_getr hB zd19_14 rfl ?_
    refine zv_dup hB zd19_17 rfl ?_
    refine zv_getf hB zd19_18 rfl rfl (fun _ _ => ?_)
    refine zv_con hB zd19_21 rfl ?_
    refine zv_ild hB zd19_22 rfl rfl ?_
    refine zv_shlw hB zd19_23 ?_
    refine zv_con hB zd19_24 rfl ?_
    refine zv_xorw hB zd19_25 ?_
    refine zv_andw hB zd19_26 ?_
    refine zv_putf hB zd19_27 rfl rfl (fun h => by cases h) rfl ?_
    refine zv_con hB zd19_30 rfl ?_
    have hw := Option.some.inj h
    subst hw
    exact hret _ _ _ _ _ zd19_31 (by constructor <;> decide) ⟨rfl, rfl, rfl⟩
  · rw [if_pos hc2] at h
    refine zv_con hB zd19_11 rfl ?_
    have hw := Option.some.inj h
    subst hw
    exact hret _ _ _ _ _ zd19_12 (by constructor <;> decide) ⟨rfl, rfl, rfl⟩
/-! X_hour (I)Z -/
-- names: 0 StarTales('arg', 0), 1 Sky(0, 0, 0)
-- fields: f0 = 1.hour_; arrays: ; out: [('ret', None), ('f', 0)]
abbrev zy_X_hour : zNL := (2, [(0, 0), (1, 1)], [(1, 1, 6, 0)], [(0, 0, 0, 1)], [])
theorem zyw_X_hour : zv_wf zy_X_hour = true := by decide +kernel
theorem zye_X_hour : zv_ek2 zy_X_hour = true := by decide +kernel
def zf_X_hour (x1 : Int) (f0 : Int) : Option (Int × Int) := (zf_X_isWithin x1 0 23).bind fun r1 => (if r1 = 0 then (some (0, f0)) else (some (1, x1)))
theorem zd20_0 : decode zxm20.2.1 0 = .ok (.iload_n 1, 1) := by decide +kernel
theorem zd20_1 : decode zxm20.2.1 1 = .ok (.iconst 0, 1) := by decide +kernel
theorem zd20_2 : decode zxm20.2.1 2 = .ok (.bipush 23, 2) := by decide +kernel
theorem zd20_4 : decode zxm20.2.1 4 = .ok (.invokestatic 126, 3) := by decide +kernel
theorem zd20_7 : decode zxm20.2.1 7 = .ok (.ifCond .ne 5, 3) := by decide +kernel
theorem zd20_10 : decode zxm20.2.1 10 = .ok (.iconst 0, 1) := by decide +kernel
theorem zd20_11 : decode zxm20.2.1 11 = .ok (.ireturn, 1) := by decide +kernel
theorem zd20_12 : decode zxm20.2.1 12 = .ok (.aload_n 0, 1) := by decide +kernel
theorem zd20_13 : decode zxm20.2.1 13 = .ok (.getfield 10, 3) := by decide +kernel
theorem zd20_16 : decode zxm20.2.1 16 = .ok (.iload_n 1, 1) := by decide +kernel
theorem zd20_17 : decode zxm20.2.1 17 = .ok (.putfield 157, 3) := by decide +kernel
theorem zd20_20 : decode zxm20.2.1 20 = .ok (.iconst 1, 1) := by decide +kernel
theorem zd20_21 : decode zxm20.2.1 21 = .ok (.ireturn, 1) := by decide +kernel
theorem zt_X_hour {x1 : Int} {f0 : Int} {o : Int × Int} (h : zf_X_hour x1 f0 = some o) : zv_Fn z_TB z_cl z_KX zy_X_hour zxm20 (1, 60) [.inr 0, .inl x1] [.inl f0] [] (some o.1) [.inl o.2] [] := zv_meth (K := (z_KF0, z_KC0, z_KL0, z_KT0, [], [], [], none)) (FT := z_FT) (MT := z_MT) (n := 2) zxp20 (z_ks0 _ (fun _ h => List.mem_cons_of_mem _ h) _ _ _ _ (fun j r h _ => by cases h)) (fun _ _ => zs_KX_p) zyw_X_hour (fun va F G h => by obtain ⟨rfl, _⟩ := h; rfl) (fun va F G h => by obtain ⟨rfl, _⟩ := h; rfl) rfl fun good va F G hB hret hvret hP => by
  obtain ⟨rfl, rfl, rfl⟩ := hP
  unfold zf_X_hour at h
  refine zv_ild hB zd20_0 rfl rfl ?_
  refine zv_con hB zd20_1 rfl ?_
  refine zv_con hB zd20_2 rfl ?_
  obtain ⟨r1, hr1, h⟩ := zi_bind h
  refine zv_cs hB (zv_emq (va2 := [.inl x1, .inl 0, .inl 23]) (F := [.inl f0]) (F' := [.inl f0]) (G := []) (G' := []) (ρ := []) (φ := []) (ψ := []) [none] [] zyw_X_isWithin zyw_X_hour zye_X_hour (by decide +kernel) (zt_X_isWithin hr1) trivial trivial rfl rfl rfl rfl rfl rfl rfl) zd20_4 zxt15 rfl (by decide) (by decide) rfl ?_
  refine zv_zne hB zd20_7 rfl (fun hc2 => ?_) (fun hc2 => ?_)
  · rw [if_neg hc2] at h
    refine zv_ald hB zd20_12 rfl rfl rfl ?_
    refine zv_getr hB zd20_13 rfl ?_
    refine zv_ild hB zd20_16 rfl rfl ?_
    refine zv_putf hB zd20_17 rfl rfl (fun h => by cases h) rfl ?_
    refine zv_con hB zd20_20 rfl ?_
    have hw := Option.some.inj h
    subst hw
    exact hret _ _ _ _ _ zd20_21 (by constructor <;> decide) ⟨rfl, rfl, rfl⟩
  · rw [if_pos hc2] at h
    refine zv_con hB zd20_10 rfl ?_
    have hw := Option.some.inj h
    subst hw
    exact hret _ _ _ _ _ zd20_11 (by constructor <;> decide) ⟨rfl, rfl, rfl⟩
/-! X_clouds (I)Z -/
-- names: 0 StarTales('arg', 0), 1 Sky(0, 0, 0)
-- fields: f0 = 1.clouds_; arrays: ; out: [('ret', None), ('f', 0)]
abbrev zy_X_clouds : zNL := (2, [(0, 0), (1, 1)], [(1, 1, 8, 0)], [(0, 0, 0, 1)], [])
theorem zyw_X_clouds : zv_wf zy_X_clouds = true := by decide +kernel
theorem zye_X_clouds : zv_ek2 zy_X_clouds = true := by decide +kernel
def zf_X_clouds (x1 : Int) (f0 : Int) : Option (Int × Int) := (zf_X_isWithin x1 0 16777215).bind fun r1 => (if r1 = 0 then (some (0, f0)) else (some (1, x1)))
theorem zd21_0 : decode zxm21.2.1 0 = .ok (.iload_n 1, 1) := by decide +kernel
theorem zd21_1 : decode zxm21.2.1 1 = .ok (.iconst 0, 1) := by decide +kernel
theorem zd21_2 : decode zxm21.2.1 2 = .ok (.ldc 160, 2) := by decide +kernel
theorem zd21_4 : decode zxm21.2.1 4 = .ok (.invokestatic 126, 3) := by decide +kernel
theorem zd21_7 : decode zxm21.2.1 7 = .ok (.ifCond .ne 5, 3) := by decide +kernel
theorem zd21_10 : decode zxm21.2.1 10 = .ok (.iconst 0, 1) := by decide +kernel
theorem zd21_11 : decode zxm21.2.1 11 = .ok (.ireturn, 1) := by decide +kernel
theorem zd21_12 : decode zxm21.2.1 12 = .ok (.aload_n 0, 1) := by decide +kernel
theorem zd21_13 : decode zxm21.2.1 13 = .ok (.getfield 10, 3) := by decide +kernel
theorem zd21_16 : decode zxm21.2.1 16 = .ok (.iload_n 1, 1) := by decide +kernel
theorem zd21_17 : decode zxm21.2.1 17 = .ok (.putfield 161, 3) := by decide +kernel
theorem zd21_20 : decode zxm21.2.1 20 = .ok (.iconst 1, 1) := by decide +kernel
theorem zd21_21 : decode zxm21.2.1 21 = .ok (.ireturn, 1) := by decide +kernel
theorem zt_X_clouds {x1 : Int} {f0 : Int} {o : Int × Int} (h : zf_X_clouds x1 f0 = some o) : zv_Fn z_TB z_cl z_KX zy_X_clouds zxm21 (1, 60) [.inr 0, .inl x1] [.inl f0] [] (some o.1) [.inl o.2] [] := zv_meth (K := (z_KF0, z_KC0, z_KL0, z_KT0, [], [], [], none)) (FT := z_FT) (MT := z_MT) (n := 2) zxp21 (z_ks0 _ (fun _ h => List.mem_cons_of_mem _ h) _ _ _ _ (fun j r h _ => by cases h)) (fun _ _ => zs_KX_p) zyw_X_clouds (fun va F G h => by obtain ⟨rfl, _⟩ := h; rfl) (fun va F G h => by obtain ⟨rfl, _⟩ := h; rfl) rfl fun good va F G hB hret hvret hP => by
  obtain ⟨rfl, rfl, rfl⟩ := hP
  unfold zf_X_clouds at h
  refine zv_ild hB zd21_0 rfl rfl ?_
  refine zv_con hB zd21_1 rfl ?_
  refine zv_con (n := 16777215) hB zd21_2 (by decide +kernel) ?_
  obtain ⟨r1, hr1, h⟩ := zi_bind h
  refine zv_cs hB (zv_emq (va2 := [.inl x1, .inl 0, .inl 16777215]) (F := [.inl f0]) (F' := [.inl f0]) (G := []) (G' := []) (ρ := []) (φ := []) (ψ := []) [none] [] zyw_X_isWithin zyw_X_clouds zye_X_clouds (by decide +kernel) (zt_X_isWithin hr1) trivial trivial rfl rfl rfl rfl rfl rfl rfl) zd21_4 zxt15 rfl (by decide) (by decide) rfl ?_
  refine zv_zne hB zd21_7 rfl (fun hc2 => ?_) (fun hc2 => ?_)
  · rw [if_neg hc2] at h
    refine zv_ald hB zd21_12 rfl rfl rfl ?_
    refine zv_getr hB zd21_13 rfl ?_
    refine zv_ild hB zd21_16 rfl rfl ?_
    refine zv_putf hB zd21_17 rfl rfl (fun h => by cases h) rfl ?_
    refine zv_con hB zd21_20 rfl ?_
    have hw := Option.some.inj h
    subst hw
    exact hret _ _ _ _ _ zd21_21 (by constructor <;> decide) ⟨rfl, rfl, rfl⟩
  · rw [if_pos hc2] at h
    refine zv_con hB zd21_10 rfl ?_
    have hw := Option.some.inj h
    subst hw
    exact hret _ _ _ _ _ zd21_11 (by constructor <;> decide) ⟨rfl, rfl, rfl⟩
/-! X_sight (II)Z -/
-- names: 0 StarTales('arg', 0), 1 Sky(0, 0, 0)
-- fields: f0 = 1.sightColumns_, f1 = 1.sightRows_; arrays: ; out: [('ret', None), ('f', 0), ('f', 1)]
abbrev zy_X_sight : zNL := (2, [(0, 0), (1, 1)], [(1, 1, 9, 0), (1, 1, 10, 1)], [(0, 0, 0, 1)], [])
theorem zyw_X_sight : zv_wf zy_X_sight = true := by decide +kernel
theorem zye_X_sight : zv_ek2 zy_X_sight = true := by decide +kernel
def zf_X_sight (x1 : Int) (x2 : Int) (f0 : Int) (f1 : Int) : Option (Int × Int × Int) := (zf_X_isWithin x1 0 11).bind fun r1 => (if r1 = 0 then (some (0, f0, f1)) else ((zf_X_isWithin x2 0 11).bind fun r3 => (if r3 = 0 then (some (0, f0, f1)) else (some (1, x1, x2)))))
theorem zd22_0 : decode zxm22.2.1 0 = .ok (.iload_n 1, 1) := by decide +kernel
theorem zd22_1 : decode zxm22.2.1 1 = .ok (.iconst 0, 1) := by decide +kernel
theorem zd22_2 : decode zxm22.2.1 2 = .ok (.bipush 11, 2) := by decide +kernel
theorem zd22_4 : decode zxm22.2.1 4 = .ok (.invokestatic 126, 3) := by decide +kernel
theorem zd22_7 : decode zxm22.2.1 7 = .ok (.ifCond .eq 13, 3) := by decide +kernel
theorem zd22_10 : decode zxm22.2.1 10 = .ok (.iload_n 2, 1) := by decide +kernel
theorem zd22_11 : decode zxm22.2.1 11 = .ok (.iconst 0, 1) := by decide +kernel
theorem zd22_12 : decode zxm22.2.1 12 = .ok (.bipush 11, 2) := by decide +kernel
theorem zd22_14 : decode zxm22.2.1 14 = .ok (.invokestatic 126, 3) := by decide +kernel
theorem zd22_17 : decode zxm22.2.1 17 = .ok (.ifCond .ne 5, 3) := by decide +kernel
theorem zd22_20 : decode zxm22.2.1 20 = .ok (.iconst 0, 1) := by decide +kernel
theorem zd22_21 : decode zxm22.2.1 21 = .ok (.ireturn, 1) := by decide +kernel
theorem zd22_22 : decode zxm22.2.1 22 = .ok (.aload_n 0, 1) := by decide +kernel
theorem zd22_23 : decode zxm22.2.1 23 = .ok (.getfield 10, 3) := by decide +kernel
theorem zd22_26 : decode zxm22.2.1 26 = .ok (.iload_n 1, 1) := by decide +kernel
theorem zd22_27 : decode zxm22.2.1 27 = .ok (.putfield 164, 3) := by decide +kernel
theorem zd22_30 : decode zxm22.2.1 30 = .ok (.aload_n 0, 1) := by decide +kernel
theorem zd22_31 : decode zxm22.2.1 31 = .ok (.getfield 10, 3) := by decide +kernel
theorem zd22_34 : decode zxm22.2.1 34 = .ok (.iload_n 2, 1) := by decide +kernel
theorem zd22_35 : decode zxm22.2.1 35 = .ok (.putfield 167, 3) := by decide +kernel
theorem zd22_38 : decode zxm22.2.1 38 = .ok (.iconst 1, 1) := by decide +kernel
theorem zd22_39 : decode zxm22.2.1 39 = .ok (.ireturn, 1) := by decide +kernel
theorem zt_X_sight {x1 : Int} {x2 : Int} {f0 : Int} {f1 : Int} {o : Int × Int × Int} (h : zf_X_sight x1 x2 f0 f1 = some o) : zv_Fn z_TB z_cl z_KX zy_X_sight zxm22 (1, 60) [.inr 0, .inl x1, .inl x2] [.inl f0, .inl f1] [] (some o.1) [.inl o.2.1, .inl o.2.2] [] := zv_meth (K := (z_KF0, z_KC0, z_KL0, z_KT0, [], [], [], none)) (FT := z_FT) (MT := z_MT) (n := 3) zxp22 (z_ks0 _ (fun _ h => List.mem_cons_of_mem _ h) _ _ _ _ (fun j r h _ => by cases h)) (fun _ _ => zs_KX_p) zyw_X_sight (fun va F G h => by obtain ⟨rfl, _⟩ := h; rfl) (fun va F G h => by obtain ⟨rfl, _⟩ := h; rfl) rfl fun good va F G hB hret hvret hP => by
  obtain ⟨rfl, rfl, rfl⟩ := hP
  unfold zf_X_sight at h
  refine zv_ild hB zd22_0 rfl rfl ?_
  refine zv_con hB zd22_1 rfl ?_
  refine zv_con hB zd22_2 rfl ?_
  obtain ⟨r1, hr1, h⟩ := zi_bind h
  refine zv_cs hB (zv_emq (va2 := [.inl x1, .inl 0, .inl 11]) (F := [.inl f0, .inl f1]) (F' := [.inl f0, .inl f1]) (G := []) (G' := []) (ρ := []) (φ := []) (ψ := []) [none, none] [] zyw_X_isWithin zyw_X_sight zye_X_sight (by decide +kernel) (zt_X_isWithin hr1) trivial trivial rfl rfl rfl rfl rfl rfl rfl) zd22_4 zxt15 rfl (by decide) (by decide) rfl ?_
  refine zv_zeq hB zd22_7 rfl (fun hc2 => ?_) (fun hc2 => ?_)
  · rw [if_pos hc2] at h
    refine zv_con hB zd22_20 rfl ?_
    have hw := Option.some.inj h
    subst hw
    exact hret _ _ _ _ _ zd22_21 (by constructor <;> decide) ⟨rfl, rfl, rfl⟩
  · rw [if_neg hc2] at h
    refine zv_ild hB zd22_10 rfl rfl ?_
    refine zv_con hB zd22_11 rfl ?_
    refine zv_con hB zd22_12 rfl ?_
    obtain ⟨r3, hr3, h⟩ := zi_bind h
    refine zv_cs hB (zv_emq (va2 := [.inl x2, .inl 0, .inl 11]) (F := [.inl f0, .inl f1]) (F' := [.inl f0, .inl f1]) (G := []) (G' := []) (ρ := []) (φ := []) (ψ := []) [none, none] [] zyw_X_isWithin zyw_X_sight zye_X_sight (by decide +kernel) (zt_X_isWithin hr3) trivial trivial rfl rfl rfl rfl rfl rfl rfl) zd22_14 zxt15 rfl (by decide) (by decide) rfl ?_
    refine zv_zne hB zd22_17 rfl (fun hc4 => ?_) (fun hc4 => ?_)
    · rw [if_neg hc4] at h
      refine zv_ald hB zd22_22 rfl rfl rfl ?_
      refine zv_getr hB zd22_23 rfl ?_
      refine zv_ild hB zd22_26 rfl rfl ?_
      refine zv_putf hB zd22_27 rfl rfl (fun h => by cases h) rfl ?_
      refine zv_ald hB zd22_30 rfl rfl rfl ?_
      refine zv_getr hB zd22_31 rfl ?_
      refine zv_ild hB zd22_34 rfl rfl ?_
      refine zv_putf hB zd22_35 rfl rfl (fun h => by cases h) rfl ?_
      refine zv_con hB zd22_38 rfl ?_
      have hw := Option.some.inj h
      subst hw
      exact hret _ _ _ _ _ zd22_39 (by constructor <;> decide) ⟨rfl, rfl, rfl⟩
    · rw [if_pos hc4] at h
      refine zv_con hB zd22_20 rfl ?_
      have hw := Option.some.inj h
      subst hw
      exact hret _ _ _ _ _ zd22_21 (by constructor <;> decide) ⟨rfl, rfl, rfl⟩
/-! X_placeOf (II)I -/
-- names: 
-- fields: ; arrays: ; out: [('ret', None)]
abbrev zy_X_placeOf : zNL := (0, [], [], [], [])
theorem zyw_X_placeOf : zv_wf zy_X_placeOf = true := by decide +kernel
theorem zye_X_placeOf : zv_ek2 zy_X_placeOf = true := by decide +kernel
def zf_X_placeOf (x0 : Int) (x1 : Int) : Option (Int) := some (zi_w ((zi_w (24 * x1)) + x0))
theorem zd24_0 : decode zxm24.2.1 0 = .ok (.bipush 24, 2) := by decide +kernel
theorem zd24_2 : decode zxm24.2.1 2 = .ok (.iload_n 1, 1) := by decide +kernel
theorem zd24_3 : decode zxm24.2.1 3 = .ok (.imul, 1) := by decide +kernel
theorem zd24_4 : decode zxm24.2.1 4 = .ok (.iload_n 0, 1) := by decide +kernel
theorem zd24_5 : decode zxm24.2.1 5 = .ok (.iadd, 1) := by decide +kernel
theorem zd24_6 : decode zxm24.2.1 6 = .ok (.ireturn, 1) := by decide +kernel
theorem zt_X_placeOf {x0 : Int} {x1 : Int} {o : Int} (h : zf_X_placeOf x0 x1 = some o) : zv_Fn z_TB z_cl z_KX zy_X_placeOf zxm24 (0, 0) [.inl x0, .inl x1] [] [] (some o) [] [] := zv_meth (K := (z_KF0, z_KC0, z_KL0, z_KT0, [], [], [], none)) (FT := z_FT) (MT := z_MT) (n := 2) zxp24 (z_ks0 _ (fun _ h => List.mem_cons_of_mem _ h) _ _ _ _ (fun j r h _ => by cases h)) (fun _ _ => zs_KX_p) zyw_X_placeOf (fun va F G h => by obtain ⟨rfl, _⟩ := h; rfl) (fun va F G h => by obtain ⟨rfl, _⟩ := h; rfl) rfl fun good va F G hB hret hvret hP => by
  obtain ⟨rfl, rfl, rfl⟩ := hP
  unfold zf_X_placeOf at h
  refine zv_con hB zd24_0 rfl ?_
  refine zv_ild hB zd24_2 rfl rfl ?_
  refine zv_mulw hB zd24_3 ?_
  refine zv_ild hB zd24_4 rfl rfl ?_
  refine zv_addw hB zd24_5 ?_
  have hw := Option.some.inj h
  subst hw
  exact hret _ _ _ _ _ zd24_6 (by trivial) ⟨rfl, rfl, rfl⟩
/-! Sea_hasShip (I)Z -/
-- names: 0 Sea('arg', 0)
-- fields: f0 = 0.shipsTold_; arrays: ; out: [('ret', None)]
abbrev zy_Sea_hasShip : zNL := (1, [(0, 2)], [(0, 2, 1, 0)], [], [])
theorem zyw_Sea_hasShip : zv_wf zy_Sea_hasShip = true := by decide +kernel
theorem zye_Sea_hasShip : zv_ek2 zy_Sea_hasShip = true := by decide +kernel
def zf_Sea_hasShip (x1 : Int) (f0 : Int) : Option (Int) := if x1 < 0 then (some 0) else (if x1 < 6 then (if (zi_and (zi_shr f0 x1) 1) = 0 then (some 0) else (some 1)) else (some 0))
theorem zd26_0 : decode zxm26.2.1 0 = .ok (.iload_n 1, 1) := by decide +kernel
theorem zd26_1 : decode zxm26.2.1 1 = .ok (.ifCond .lt 24, 3) := by decide +kernel
theorem zd26_4 : decode zxm26.2.1 4 = .ok (.iload_n 1, 1) := by decide +kernel
theorem zd26_5 : decode zxm26.2.1 5 = .ok (.bipush 6, 2) := by decide +kernel
theorem zd26_7 : decode zxm26.2.1 7 = .ok (.if_icmp .ge 18, 3) := by decide +kernel
theorem zd26_10 : decode zxm26.2.1 10 = .ok (.aload_n 0, 1) := by decide +kernel
theorem zd26_11 : decode zxm26.2.1 11 = .ok (.getfield 15, 3) := by decide +kernel
theorem zd26_14 : decode zxm26.2.1 14 = .ok (.iload_n 1, 1) := by decide +kernel
theorem zd26_15 : decode zxm26.2.1 15 = .ok (.ishr, 1) := by decide +kernel
theorem zd26_16 : decode zxm26.2.1 16 = .ok (.iconst 1, 1) := by decide +kernel
theorem zd26_17 : decode zxm26.2.1 17 = .ok (.iand, 1) := by decide +kernel
theorem zd26_18 : decode zxm26.2.1 18 = .ok (.ifCond .eq 7, 3) := by decide +kernel
theorem zd26_21 : decode zxm26.2.1 21 = .ok (.iconst 1, 1) := by decide +kernel
theorem zd26_22 : decode zxm26.2.1 22 = .ok (.goto 4, 3) := by decide +kernel
theorem zd26_25 : decode zxm26.2.1 25 = .ok (.iconst 0, 1) := by decide +kernel
theorem zd26_26 : decode zxm26.2.1 26 = .ok (.ireturn, 1) := by decide +kernel
theorem zt_Sea_hasShip {x1 : Int} {f0 : Int} {o : Int} (h : zf_Sea_hasShip x1 f0 = some o) : zv_Fn z_TB z_cl z_KX zy_Sea_hasShip zxm26 (0, 0) [.inr 0, .inl x1] [.inl f0] [] (some o) [.inl f0] [] := zv_meth (K := (z_KF7, z_KC7, z_KL7, z_KT7, [], [], [], none)) (FT := z_FT) (MT := z_MT) (n := 2) zxp26 (z_ks7 _ (fun _ h => List.mem_cons_of_mem _ h) _ _ _ _ (fun j r h _ => by cases h)) (fun _ _ => zs_KX_p) zyw_Sea_hasShip (fun va F G h => by obtain ⟨rfl, _⟩ := h; rfl) (fun va F G h => by obtain ⟨rfl, _⟩ := h; rfl) rfl fun good va F G hB hret hvret hP => by
  obtain ⟨rfl, rfl, rfl⟩ := hP
  unfold zf_Sea_hasShip at h
  refine zv_ild hB zd26_0 rfl rfl ?_
  refine zv_zlt hB zd26_1 rfl (fun hc1 => ?_) (fun hc1 => ?_)
  · rw [if_pos hc1] at h
    refine zv_con hB zd26_25 rfl ?_
    have hw := Option.some.inj h
    subst hw
    exact hret _ _ _ _ _ zd26_26 (by constructor <;> decide) ⟨rfl, rfl, rfl⟩
  · rw [if_neg (Int.not_lt.mpr hc1)] at h
    refine zv_ild hB zd26_4 rfl rfl ?_
    refine zv_con hB zd26_5 rfl ?_
    refine zv_cge hB zd26_7 rfl (fun hc2 => ?_) (fun hc2 => ?_)
    · rw [if_neg (Int.not_lt.mpr hc2)] at h
      refine zv_con hB zd26_25 rfl ?_
      have hw := Option.some.inj h
      subst hw
      exact hret _ _ _ _ _ zd26_26 (by constructor <;> decide) ⟨rfl, rfl, rfl⟩
    · rw [if_pos hc2] at h
      refine zv_ald hB zd26_10 rfl rfl rfl ?_
      refine zv_getf hB zd26_11 rfl rfl (fun _ _ => ?_)
      refine zv_ild hB zd26_14 rfl rfl ?_
      refine zv_shrw hB zd26_15 ?_
      refine zv_con hB zd26_16 rfl ?_
      refine zv_andw hB zd26_17 ?_
      refine zv_zeq hB zd26_18 rfl (fun hc3 => ?_) (fun hc3 => ?_)
      · rw [if_pos hc3] at h
        refine zv_con hB zd26_25 rfl ?_
        have hw := Option.some.inj h
        subst hw
        exact hret _ _ _ _ _ zd26_26 (by constructor <;> decide) ⟨rfl, rfl, rfl⟩
      · rw [if_neg hc3] at h
        refine zv_con hB zd26_21 rfl ?_
        refine zv_goto hB zd26_22 rfl ?_
        have hw := Option.some.inj h
        subst hw
        exact hret _ _ _ _ _ zd26_26 (by constructor <;> decide) ⟨rfl, rfl, rfl⟩
/-! Sea_hasShipAt (I)Z -/
-- names: 0 Sea('arg', 0), 1 (0, 6)(0, 2, 2)
-- fields: f0 = 0.shipsTold_; arrays: g0 = 1; out: [('ret', None)]
abbrev zy_Sea_hasShipAt : zNL := (2, [(0, 2)], [(0, 2, 1, 0)], [(0, 2, 2, 1)], [(1, 0, 6, 0)])
theorem zyw_Sea_hasShipAt : zv_wf zy_Sea_hasShipAt = true := by decide +kernel
theorem zye_Sea_hasShipAt : zv_ek2 zy_Sea_hasShipAt = true := by decide +kernel
def zf_Sea_hasShipAt_l0_b (x1 : Int) (f0 : Int) (g0 : (Int → Int)) (rec : Int → Option (((Unit) ⊕ (Int)))) (x2 : Int) : Option (((Unit) ⊕ (Int))) := if x2 < 6 then ((zf_Sea_hasShip x2 f0).bind fun r2 => (if r2 = 0 then (rec (zi_w (x2 + 1))) else (cond (zi_ix x2 6) (if (g0 x2) = x1 then (some (.inr 1)) else (rec (zi_w (x2 + 1)))) none))) else (some (.inl ()))
def zf_Sea_hasShipAt_l0 (x1 : Int) (f0 : Int) (g0 : (Int → Int)) : Nat → Int → Option (((Unit) ⊕ (Int)))
  | 0, _ => none
  | n + 1, x2 => zf_Sea_hasShipAt_l0_b x1 f0 g0 (zf_Sea_hasShipAt_l0 x1 f0 g0 n) x2
def zf_Sea_hasShipAt (x1 : Int) (f0 : Int) (g0 : (Int → Int)) : Option (Int) := (zf_Sea_hasShipAt_l0 x1 f0 g0 zi_fu 0).bind fun q6 => Sum.elim (fun e7 => (some 0)) (fun w8 => some w8) q6
theorem zd25_0 : decode zxm25.2.1 0 = .ok (.iconst 0, 1) := by decide +kernel
theorem zd25_1 : decode zxm25.2.1 1 = .ok (.istore_n 2, 1) := by decide +kernel
theorem zd25_2 : decode zxm25.2.1 2 = .ok (.iload_n 2, 1) := by decide +kernel
theorem zd25_3 : decode zxm25.2.1 3 = .ok (.bipush 6, 2) := by decide +kernel
theorem zd25_5 : decode zxm25.2.1 5 = .ok (.if_icmp .ge 29, 3) := by decide +kernel
theorem zd25_8 : decode zxm25.2.1 8 = .ok (.aload_n 0, 1) := by decide +kernel
theorem zd25_9 : decode zxm25.2.1 9 = .ok (.iload_n 2, 1) := by decide +kernel
theorem zd25_10 : decode zxm25.2.1 10 = .ok (.invokevirtual 34, 3) := by decide +kernel
theorem zd25_13 : decode zxm25.2.1 13 = .ok (.ifCond .eq 15, 3) := by decide +kernel
theorem zd25_16 : decode zxm25.2.1 16 = .ok (.aload_n 0, 1) := by decide +kernel
theorem zd25_17 : decode zxm25.2.1 17 = .ok (.getfield 19, 3) := by decide +kernel
theorem zd25_20 : decode zxm25.2.1 20 = .ok (.iload_n 2, 1) := by decide +kernel
theorem zd25_21 : decode zxm25.2.1 21 = .ok (.iaload, 1) := by decide +kernel
theorem zd25_22 : decode zxm25.2.1 22 = .ok (.iload_n 1, 1) := by decide +kernel
theorem zd25_23 : decode zxm25.2.1 23 = .ok (.if_icmp .ne 5, 3) := by decide +kernel
theorem zd25_26 : decode zxm25.2.1 26 = .ok (.iconst 1, 1) := by decide +kernel
theorem zd25_27 : decode zxm25.2.1 27 = .ok (.ireturn, 1) := by decide +kernel
theorem zd25_28 : decode zxm25.2.1 28 = .ok (.iinc 2 1, 3) := by decide +kernel
theorem zd25_31 : decode zxm25.2.1 31 = .ok (.goto (-29), 3) := by decide +kernel
theorem zd25_34 : decode zxm25.2.1 34 = .ok (.iconst 0, 1) := by decide +kernel
theorem zd25_35 : decode zxm25.2.1 35 = .ok (.ireturn, 1) := by decide +kernel
theorem zt_Sea_hasShipAt {x1 : Int} {f0 : Int} {g0 : (Int → Int)} {o : Int} (h : zf_Sea_hasShipAt x1 f0 g0 = some o) : zv_Fn z_TB z_cl z_KX zy_Sea_hasShipAt zxm25 (1, 60) [.inr 0, .inl x1] [.inl f0] [g0] (some o) [.inl f0] [g0] := zv_meth (K := (z_KF7, z_KC7, z_KL7, z_KT7, [], [], [], none)) (FT := z_FT) (MT := z_MT) (n := 2) zxp25 (z_ks7 _ (fun _ h => List.mem_cons_of_mem _ h) _ _ _ _ (fun j r h _ => by cases h)) (fun _ _ => zs_KX_p) zyw_Sea_hasShipAt (fun va F G h => by obtain ⟨rfl, _⟩ := h; rfl) (fun va F G h => by obtain ⟨rfl, _⟩ := h; rfl) rfl fun good va F G hB hret hvret hP => by
  obtain ⟨rfl, rfl, rfl⟩ := hP
  have l0 : ∀ (n : Nat) (x1 : Int) (x2 : Int) (q : ((Unit) ⊕ (Int))), zf_Sea_hasShipAt_l0 x1 f0 g0 n x2 = some q → (Sum.elim (fun e : Unit => good 34 [.inr 1000, .inr 1000, .inr 1000] [] [.inl f0] [g0]) (fun w : Int => w = o) q) → good 2 [.inr 0, .inl x1, .inl x2] [] [.inl f0] [g0] := by
    intro n
    induction n with
    | zero => intro x1 x2 q h; exact absurd (show none = some q from h) (fun h => by cases h)
    | succ n ih =>
      intro x1 x2 q h hK
      replace h : zf_Sea_hasShipAt_l0_b x1 f0 g0 (zf_Sea_hasShipAt_l0 x1 f0 g0 n) x2 = some q := h
      unfold zf_Sea_hasShipAt_l0_b at h
      refine zv_ild hB zd25_2 rfl rfl ?_
      refine zv_con hB zd25_3 rfl ?_
      refine zv_cge hB zd25_5 rfl (fun hc1 => ?_) (fun hc1 => ?_)
      · rw [if_neg (Int.not_lt.mpr hc1)] at h
        have hq := Option.some.inj h
        subst hq
        refine zv_wk hB (L' := [.inr 1000, .inr 1000, .inr 1000]) (F' := [.inl f0]) ⟨fun (h : zv_is (.inr 1000)) => (Nat.lt_irrefl 1000 h).elim, fun (h : zv_is (.inr 1000)) => (Nat.lt_irrefl 1000 h).elim, fun (h : zv_is (.inr 1000)) => (Nat.lt_irrefl 1000 h).elim, trivial⟩ ⟨fun _ => rfl, trivial⟩ ?_
        exact hK
      · rw [if_pos hc1] at h
        refine zv_ald hB zd25_8 rfl rfl rfl ?_
        refine zv_ild hB zd25_9 rfl rfl ?_
        obtain ⟨r2, hr2, h⟩ := zi_bind h
        refine zv_cv hB (zv_emq (va2 := [.inr 0, .inl x2]) (F := [.inl f0]) (F' := [.inl f0]) (G := [g0]) (G' := [g0]) (ρ := [0]) (φ := [0]) (ψ := []) [some 0] [none] zyw_Sea_hasShip zyw_Sea_hasShipAt zye_Sea_hasShipAt (by decide +kernel) (zt_Sea_hasShip hr2) ⟨⟨_, rfl, fun _ => rfl⟩, trivial⟩ trivial rfl rfl rfl rfl rfl rfl rfl) zd25_10 zxt26 rfl (by decide) (by decide) rfl ?_
        refine zv_zeq hB zd25_13 rfl (fun hc3 => ?_) (fun hc3 => ?_)
        · rw [if_pos hc3] at h
          refine zv_iincw hB zd25_28 rfl rfl ?_
          refine zv_goto hB zd25_31 rfl ?_
          exact ih _ _ q h hK
        · rw [if_neg hc3] at h
          refine zv_ald hB zd25_16 rfl rfl rfl ?_
          refine zv_getr hB zd25_17 rfl ?_
          refine zv_ild hB zd25_20 rfl rfl ?_
          obtain ⟨c4, h⟩ := zi_if h
          refine zv_iald hB zd25_21 rfl rfl (zi_ix_ok c4).1 (zi_ix_ok c4).2 (fun _ _ => ?_)
          refine zv_ild hB zd25_22 rfl rfl ?_
          refine zv_cne hB zd25_23 rfl (fun hc5 => ?_) (fun hc5 => ?_)
          · rw [if_neg hc5] at h
            refine zv_iincw hB zd25_28 rfl rfl ?_
            refine zv_goto hB zd25_31 rfl ?_
            exact ih _ _ q h hK
          · rw [if_pos hc5] at h
            refine zv_con hB zd25_26 rfl ?_
            have hw : 1 = o := zi_rk (Option.some.inj h) hK
            subst hw
            exact hret _ _ _ _ _ zd25_27 (by constructor <;> decide) ⟨rfl, rfl, rfl⟩
  unfold zf_Sea_hasShipAt at h
  refine zv_con hB zd25_0 rfl ?_
  refine zv_ist hB zd25_1 rfl rfl rfl ?_
  obtain ⟨q6, hq6, h⟩ := zi_bind h
  refine l0 _ _ _ q6 hq6 ?_
  rcases q6 with e7 | w8
  · replace h := zi_sl h
    show good 34 [.inr 1000, .inr 1000, .inr 1000] [] [.inl f0] [g0]
    refine zv_con hB zd25_34 rfl ?_
    have hw := Option.some.inj h
    subst hw
    exact hret _ _ _ _ _ zd25_35 (by constructor <;> decide) ⟨rfl, rfl, rfl⟩
  · exact Option.some.inj h
/-! Sea_setLand (IIZ)V -/
-- names: 0 Sea('arg', 0), 1 (0, 12)(0, 2, 0)
-- fields: ; arrays: g0 = 1; out: [('g', 0)]
abbrev zy_Sea_setLand : zNL := (2, [(0, 2)], [], [(0, 2, 0, 1)], [(1, 0, 12, 0)])
theorem zyw_Sea_setLand : zv_wf zy_Sea_setLand = true := by decide +kernel
theorem zye_Sea_setLand : zv_ek2 zy_Sea_setLand = true := by decide +kernel
def zf_Sea_setLand (x1 : Int) (x2 : Int) (x3 : Int) (g0 : (Int → Int)) : Option ((Int → Int)) := if x3 = 0 then (cond (zi_ix x2 12) (some (zv_up g0 x2 (zi_and (g0 x2) (zi_xor (zi_shl 1 x1) (-1))))) none) else (cond (zi_ix x2 12) (some (zv_up g0 x2 (zi_or (g0 x2) (zi_shl 1 x1)))) none)
theorem zd27_0 : decode zxm27.2.1 0 = .ok (.iload_n 3, 1) := by decide +kernel
theorem zd27_1 : decode zxm27.2.1 1 = .ok (.ifCond .eq 18, 3) := by decide +kernel
theorem zd27_4 : decode zxm27.2.1 4 = .ok (.aload_n 0, 1) := by decide +kernel
theorem zd27_5 : decode zxm27.2.1 5 = .ok (.getfield 9, 3) := by decide +kernel
theorem zd27_8 : decode zxm27.2.1 8 = .ok (.iload_n 2, 1) := by decide +kernel
theorem zd27_9 : decode zxm27.2.1 9 = .ok (.dup2, 1) := by decide +kernel
theorem zd27_10 : decode zxm27.2.1 10 = .ok (.iaload, 1) := by decide +kernel
theorem zd27_11 : decode zxm27.2.1 11 = .ok (.iconst 1, 1) := by decide +kernel
theorem zd27_12 : decode zxm27.2.1 12 = .ok (.iload_n 1, 1) := by decide +kernel
theorem zd27_13 : decode zxm27.2.1 13 = .ok (.ishl, 1) := by decide +kernel
theorem zd27_14 : decode zxm27.2.1 14 = .ok (.ior, 1) := by decide +kernel
theorem zd27_15 : decode zxm27.2.1 15 = .ok (.iastore, 1) := by decide +kernel
theorem zd27_16 : decode zxm27.2.1 16 = .ok (.goto 17, 3) := by decide +kernel
theorem zd27_19 : decode zxm27.2.1 19 = .ok (.aload_n 0, 1) := by decide +kernel
theorem zd27_20 : decode zxm27.2.1 20 = .ok (.getfield 9, 3) := by decide +kernel
theorem zd27_23 : decode zxm27.2.1 23 = .ok (.iload_n 2, 1) := by decide +kernel
theorem zd27_24 : decode zxm27.2.1 24 = .ok (.dup2, 1) := by decide +kernel
theorem zd27_25 : decode zxm27.2.1 25 = .ok (.iaload, 1) := by decide +kernel
theorem zd27_26 : decode zxm27.2.1 26 = .ok (.iconst 1, 1) := by decide +kernel
theorem zd27_27 : decode zxm27.2.1 27 = .ok (.iload_n 1, 1) := by decide +kernel
theorem zd27_28 : decode zxm27.2.1 28 = .ok (.ishl, 1) := by decide +kernel
theorem zd27_29 : decode zxm27.2.1 29 = .ok (.iconst (-1), 1) := by decide +kernel
theorem zd27_30 : decode zxm27.2.1 30 = .ok (.ixor, 1) := by decide +kernel
theorem zd27_31 : decode zxm27.2.1 31 = .ok (.iand, 1) := by decide +kernel
theorem zd27_32 : decode zxm27.2.1 32 = .ok (.iastore, 1) := by decide +kernel
theorem zd27_33 : decode zxm27.2.1 33 = .ok (.return_, 1) := by decide +kernel
theorem zt_Sea_setLand {x1 : Int} {x2 : Int} {x3 : Int} {g0 : (Int → Int)} {o : (Int → Int)} (h : zf_Sea_setLand x1 x2 x3 g0 = some o) : zv_Fn z_TB z_cl z_KX zy_Sea_setLand zxm27 (0, 0) [.inr 0, .inl x1, .inl x2, .inl x3] [] [g0] none [] [o] := zv_meth (K := (z_KF7, z_KC7, z_KL7, z_KT7, [], [], [], none)) (FT := z_FT) (MT := z_MT) (n := 4) zxp27 (z_ks7 _ (fun _ h => List.mem_cons_of_mem _ h) _ _ _ _ (fun j r h _ => by cases h)) (fun _ _ => zs_KX_p) zyw_Sea_setLand (fun va F G h => by obtain ⟨rfl, _⟩ := h; rfl) (fun va F G h => by obtain ⟨rfl, _⟩ := h; rfl) rfl fun good va F G hB hret hvret hP => by
  obtain ⟨rfl, rfl, rfl⟩ := hP
  unfold zf_Sea_setLand at h
  refine zv_ild hB zd27_0 rfl rfl ?_
  refine zv_zeq hB zd27_1 rfl (fun hc1 => ?_) (fun hc1 => ?_)
  · rw [if_pos hc1] at h
    refine zv_ald hB zd27_19 rfl rfl rfl ?_
    refine zv_getr hB zd27_20 rfl ?_
    refine zv_ild hB zd27_23 rfl rfl ?_
    refine zv_dup2 hB zd27_24 rfl rfl ?_
    obtain ⟨c2, h⟩ := zi_if h
    refine zv_iald hB zd27_25 rfl rfl (zi_ix_ok c2).1 (zi_ix_ok c2).2 (fun _ _ => ?_)
    refine zv_con hB zd27_26 rfl ?_
    refine zv_ild hB zd27_27 rfl rfl ?_
    refine zv_shlw hB zd27_28 ?_
    refine zv_con hB zd27_29 rfl ?_
    refine zv_xorw hB zd27_30 ?_
    refine zv_andw hB zd27_31 ?_
    refine zv_iast hB zd27_32 rfl rfl (zi_ix_ok c2).1 (zi_ix_ok c2).2 ?_
    have hw := Option.some.inj h
    subst hw
    exact hvret _ _ _ _ zd27_33 trivial ⟨rfl, rfl, rfl⟩
  · rw [if_neg hc1] at h
    refine zv_ald hB zd27_4 rfl rfl rfl ?_
    refine zv_getr hB zd27_5 rfl ?_
    refine zv_ild hB zd27_8 rfl rfl ?_
    refine zv_dup2 hB zd27_9 rfl rfl ?_
    obtain ⟨c3, h⟩ := zi_if h
    refine zv_iald hB zd27_10 rfl rfl (zi_ix_ok c3).1 (zi_ix_ok c3).2 (fun _ _ => ?_)
    refine zv_con hB zd27_11 rfl ?_
    refine zv_ild hB zd27_12 rfl rfl ?_
    refine zv_shlw hB zd27_13 ?_
    refine zv_orw hB zd27_14 ?_
    refine zv_iast hB zd27_15 rfl rfl (zi_ix_ok c3).1 (zi_ix_ok c3).2 ?_
    refine zv_goto hB zd27_16 rfl ?_
    have hw := Option.some.inj h
    subst hw
    exact hvret _ _ _ _ zd27_33 trivial ⟨rfl, rfl, rfl⟩
/-! X_land (IIZ)Z -/
-- names: 0 StarTales('arg', 0), 1 Sea(0, 0, 3), 2 (0, 6)(1, 2, 2), 3 (0, 12)(1, 2, 0)
-- fields: f0 = 1.shipsTold_; arrays: g0 = 2, g1 = 3; out: [('ret', None), ('g', 1)]
abbrev zy_X_land : zNL := (4, [(0, 0), (1, 2)], [(1, 2, 1, 0)], [(0, 0, 3, 1), (1, 2, 2, 2), (1, 2, 0, 3)], [(2, 0, 6, 0), (3, 0, 12, 1)])
theorem zyw_X_land : zv_wf zy_X_land = true := by decide +kernel
theorem zye_X_land : zv_ek2 zy_X_land = true := by decide +kernel
def zf_X_land (x1 : Int) (x2 : Int) (x3 : Int) (f0 : Int) (g0 : (Int → Int)) (g1 : (Int → Int)) : Option (Int × (Int → Int)) := (zf_X_isPlace x1 x2).bind fun r1 => (if r1 = 0 then (some (0, g1)) else ((zf_X_placeOf x1 x2).bind fun r3 => ((zf_Sea_hasShipAt r3 f0 g0).bind fun r4 => (if r4 = 0 then ((zf_Sea_setLand x1 x2 x3 g1).bind fun r6 => (some (1, r6))) else (some (0, g1))))))
theorem zd23_0 : decode zxm23.2.1 0 = .ok (.iload_n 1, 1) := by decide +kernel
theorem zd23_1 : decode zxm23.2.1 1 = .ok (.iload_n 2, 1) := by decide +kernel
theorem zd23_2 : decode zxm23.2.1 2 = .ok (.invokestatic 130, 3) := by decide +kernel
theorem zd23_5 : decode zxm23.2.1 5 = .ok (.ifCond .eq 18, 3) := by decide +kernel
theorem zd23_8 : decode zxm23.2.1 8 = .ok (.aload_n 0, 1) := by decide +kernel
theorem zd23_9 : decode zxm23.2.1 9 = .ok (.getfield 25, 3) := by decide +kernel
theorem zd23_12 : decode zxm23.2.1 12 = .ok (.iload_n 1, 1) := by decide +kernel
theorem zd23_13 : decode zxm23.2.1 13 = .ok (.iload_n 2, 1) := by decide +kernel
theorem zd23_14 : decode zxm23.2.1 14 = .ok (.invokestatic 170, 3) := by decide +kernel
theorem zd23_17 : decode zxm23.2.1 17 = .ok (.invokevirtual 174, 3) := by decide +kernel
theorem zd23_20 : decode zxm23.2.1 20 = .ok (.ifCond .eq 5, 3) := by decide +kernel
theorem zd23_23 : decode zxm23.2.1 23 = .ok (.iconst 0, 1) := by decide +kernel
theorem zd23_24 : decode zxm23.2.1 24 = .ok (.ireturn, 1) := by decide +kernel
theorem zd23_25 : decode zxm23.2.1 25 = .ok (.aload_n 0, 1) := by decide +kernel
theorem zd23_26 : decode zxm23.2.1 26 = .ok (.getfield 25, 3) := by decide +kernel
theorem zd23_29 : decode zxm23.2.1 29 = .ok (.iload_n 1, 1) := by decide +kernel
theorem zd23_30 : decode zxm23.2.1 30 = .ok (.iload_n 2, 1) := by decide +kernel
theorem zd23_31 : decode zxm23.2.1 31 = .ok (.iload_n 3, 1) := by decide +kernel
theorem zd23_32 : decode zxm23.2.1 32 = .ok (.invokevirtual 177, 3) := by decide +kernel
theorem zd23_35 : decode zxm23.2.1 35 = .ok (.iconst 1, 1) := by decide +kernel
theorem zd23_36 : decode zxm23.2.1 36 = .ok (.ireturn, 1) := by decide +kernel
theorem zt_X_land {x1 : Int} {x2 : Int} {x3 : Int} {f0 : Int} {g0 : (Int → Int)} {g1 : (Int → Int)} {o : Int × (Int → Int)} (h : zf_X_land x1 x2 x3 f0 g0 g1 = some o) : zv_Fn z_TB z_cl z_KX zy_X_land zxm23 (2, 120) [.inr 0, .inl x1, .inl x2, .inl x3] [.inl f0] [g0, g1] (some o.1) [.inl f0] [g0, o.2] := zv_meth (K := (z_KF0, z_KC0, z_KL0, z_KT0, [], [], [], none)) (FT := z_FT) (MT := z_MT) (n := 4) zxp23 (z_ks0 _ (fun _ h => List.mem_cons_of_mem _ h) _ _ _ _ (fun j r h _ => by cases h)) (fun _ _ => zs_KX_p) zyw_X_land (fun va F G h => by obtain ⟨rfl, _⟩ := h; rfl) (fun va F G h => by obtain ⟨rfl, _⟩ := h; rfl) rfl fun good va F G hB hret hvret hP => by
  obtain ⟨rfl, rfl, rfl⟩ := hP
  unfold zf_X_land at h
  refine zv_ild hB zd23_0 rfl rfl ?_
  refine zv_ild hB zd23_1 rfl rfl ?_
  obtain ⟨r1, hr1, h⟩ := zi_bind h
  refine zv_cs hB (zv_emq (va2 := [.inl x1, .inl x2]) (F := [.inl f0]) (F' := [.inl f0]) (G := [g0, g1]) (G' := [g0, g1]) (ρ := []) (φ := []) (ψ := []) [none] [none, none] zyw_X_isPlace zyw_X_land zye_X_land (by decide +kernel) (zt_X_isPlace hr1) trivial trivial rfl rfl rfl rfl rfl rfl rfl) zd23_2 zxt16 rfl (by decide) (by decide) rfl ?_
  refine zv_zeq hB zd23_5 rfl (fun hc2 => ?_) (fun hc2 => ?_)
  · rw [if_pos hc2] at h
    refine zv_con hB zd23_23 rfl ?_
    have hw := Option.some.inj h
    subst hw
    exact hret _ _ _ _ _ zd23_24 (by constructor <;> decide) ⟨rfl, rfl, rfl⟩
  · rw [if_neg hc2] at h
    refine zv_ald hB zd23_8 rfl rfl rfl ?_
    refine zv_getr hB zd23_9 rfl ?_
    refine zv_ild hB zd23_12 rfl rfl ?_
    refine zv_ild hB zd23_13 rfl rfl ?_
    obtain ⟨r3, hr3, h⟩ := zi_bind h
    refine zv_cs hB (zv_emq (va2 := [.inl x1, .inl x2]) (F := [.inl f0]) (F' := [.inl f0]) (G := [g0, g1]) (G' := [g0, g1]) (ρ := []) (φ := []) (ψ := []) [none] [none, none] zyw_X_placeOf zyw_X_land zye_X_land (by decide +kernel) (zt_X_placeOf hr3) trivial trivial rfl rfl rfl rfl rfl rfl rfl) zd23_14 zxt24 rfl (by decide) (by decide) rfl ?_
    obtain ⟨r4, hr4, h⟩ := zi_bind h
    refine zv_cv hB (zv_emq (va2 := [.inr 1, .inl r3]) (F := [.inl f0]) (F' := [.inl f0]) (G := [g0, g1]) (G' := [g0, g1]) (ρ := [1, 2]) (φ := [0]) (ψ := [0]) [some 0] [some 0, none] zyw_Sea_hasShipAt zyw_X_land zye_X_land (by decide +kernel) (zt_Sea_hasShipAt hr4) ⟨⟨_, rfl, fun _ => rfl⟩, trivial⟩ ⟨rfl, trivial⟩ rfl rfl rfl rfl rfl rfl rfl) zd23_17 zxt25 rfl (by decide) (by decide) rfl ?_
    refine zv_zeq hB zd23_20 rfl (fun hc5 => ?_) (fun hc5 => ?_)
    · rw [if_pos hc5] at h
      refine zv_ald hB zd23_25 rfl rfl rfl ?_
      refine zv_getr hB zd23_26 rfl ?_
      refine zv_ild hB zd23_29 rfl rfl ?_
      refine zv_ild hB zd23_30 rfl rfl ?_
      refine zv_ild hB zd23_31 rfl rfl ?_
      obtain ⟨r6, hr6, h⟩ := zi_bind h
      refine zv_cv hB (zv_emq (va2 := [.inr 1, .inl x1, .inl x2, .inl x3]) (F := [.inl f0]) (F' := [.inl f0]) (G := [g0, g1]) (G' := [g0, r6]) (ρ := [1, 3]) (φ := []) (ψ := [1]) [none] [none, some 0] zyw_Sea_setLand zyw_X_land zye_X_land (by decide +kernel) (zt_Sea_setLand hr6) trivial ⟨rfl, trivial⟩ rfl rfl rfl rfl rfl rfl rfl) zd23_32 zxt27 rfl (by decide) (by decide) rfl ?_
      refine zv_con hB zd23_35 rfl ?_
      have hw := Option.some.inj h
      subst hw
      exact hret _ _ _ _ _ zd23_36 (by constructor <;> decide) ⟨rfl, rfl, rfl⟩
    · rw [if_neg hc5] at h
      refine zv_con hB zd23_23 rfl ?_
      have hw := Option.some.inj h
      subst hw
      exact hret _ _ _ _ _ zd23_24 (by constructor <;> decide) ⟨rfl, rfl, rfl⟩
/-! X_rowOf (I)I -/
-- names: 
-- fields: ; arrays: ; out: [('ret', None)]
abbrev zy_X_rowOf : zNL := (0, [], [], [], [])
theorem zyw_X_rowOf : zv_wf zy_X_rowOf = true := by decide +kernel
theorem zye_X_rowOf : zv_ek2 zy_X_rowOf = true := by decide +kernel
def zf_X_rowOf (x0 : Int) : Option (Int) := some (zi_div x0 24)
theorem zd30_0 : decode zxm30.2.1 0 = .ok (.iload_n 0, 1) := by decide +kernel
theorem zd30_1 : decode zxm30.2.1 1 = .ok (.bipush 24, 2) := by decide +kernel
theorem zd30_3 : decode zxm30.2.1 3 = .ok (.idiv, 1) := by decide +kernel
theorem zd30_4 : decode zxm30.2.1 4 = .ok (.ireturn, 1) := by decide +kernel
theorem zt_X_rowOf {x0 : Int} {o : Int} (h : zf_X_rowOf x0 = some o) : zv_Fn z_TB z_cl z_KX zy_X_rowOf zxm30 (0, 0) [.inl x0] [] [] (some o) [] [] := zv_meth (K := (z_KF0, z_KC0, z_KL0, z_KT0, [], [], [], none)) (FT := z_FT) (MT := z_MT) (n := 1) zxp30 (z_ks0 _ (fun _ h => List.mem_cons_of_mem _ h) _ _ _ _ (fun j r h _ => by cases h)) (fun _ _ => zs_KX_p) zyw_X_rowOf (fun va F G h => by obtain ⟨rfl, _⟩ := h; rfl) (fun va F G h => by obtain ⟨rfl, _⟩ := h; rfl) rfl fun good va F G hB hret hvret hP => by
  obtain ⟨rfl, rfl, rfl⟩ := hP
  unfold zf_X_rowOf at h
  refine zv_ild hB zd30_0 rfl rfl ?_
  refine zv_con hB zd30_1 rfl ?_
  refine zv_divw hB zd30_3 (by decide) ?_
  have hw := Option.some.inj h
  subst hw
  exact hret _ _ _ _ _ zd30_4 (by trivial) ⟨rfl, rfl, rfl⟩
end
section
/-! Methods as functions, and that they do what these do. -/
/-! X_columnOf (I)I -/
-- names: 
-- fields: ; arrays: ; out: [('ret', None)]
abbrev zy_X_columnOf : zNL := (0, [], [], [], [])
theorem zyw_X_columnOf : zv_wf zy_X_columnOf = true := by decide +kernel
theorem zye_X_columnOf : zv_ek2 zy_X_columnOf = true := by decide +kernel
def zf_X_columnOf (x0 : Int) : Option (Int) := some (zi_rem x0 24)
theorem zd31_0 : decode zxm31.2.1 0 = .ok (.iload_n 0, 1) := by decide +kernel
theorem zd31_1 : decode zxm31.2.1 1 = .ok (.bipush 24, 2) := by decide +kernel
theorem zd31_3 : decode zxm31.2.1 3 = .ok (.irem, 1) := by decide +kernel
theorem zd31_4 : decode zxm31.2.1 4 = .ok (.ireturn, 1) := by decide +kernel
theorem zt_X_columnOf {x0 : Int} {o : Int} (h : zf_X_columnOf x0 = some o) : zv_Fn z_TB z_cl z_KX zy_X_columnOf zxm31 (0, 0) [.inl x0] [] [] (some o) [] [] := zv_meth (K := (z_KF0, z_KC0, z_KL0, z_KT0, [], [], [], none)) (FT := z_FT) (MT := z_MT) (n := 1) zxp31 (z_ks0 _ (fun _ h => List.mem_cons_of_mem _ h) _ _ _ _ (fun j r h _ => by cases h)) (fun _ _ => zs_KX_p) zyw_X_columnOf (fun va F G h => by obtain ⟨rfl, _⟩ := h; rfl) (fun va F G h => by obtain ⟨rfl, _⟩ := h; rfl) rfl fun good va F G hB hret hvret hP => by
  obtain ⟨rfl, rfl, rfl⟩ := hP
  unfold zf_X_columnOf at h
  refine zv_ild hB zd31_0 rfl rfl ?_
  refine zv_con hB zd31_1 rfl ?_
  refine zv_remw hB zd31_3 (by decide) ?_
  have hw := Option.some.inj h
  subst hw
  exact hret _ _ _ _ _ zd31_4 (by trivial) ⟨rfl, rfl, rfl⟩
/-! Sea_isLand (I)Z -/
-- names: 0 Sea('arg', 0), 1 (0, 12)(0, 2, 0)
-- fields: ; arrays: g0 = 1; out: [('ret', None)]
abbrev zy_Sea_isLand : zNL := (2, [(0, 2)], [], [(0, 2, 0, 1)], [(1, 0, 12, 0)])
theorem zyw_Sea_isLand : zv_wf zy_Sea_isLand = true := by decide +kernel
theorem zye_Sea_isLand : zv_ek2 zy_Sea_isLand = true := by decide +kernel
def zf_Sea_isLand (x1 : Int) (g0 : (Int → Int)) : Option (Int) := (zf_X_rowOf x1).bind fun r1 => (cond (zi_ix r1 12) ((zf_X_columnOf x1).bind fun r3 => (if (zi_and (zi_shr (g0 r1) r3) 1) = 0 then (some 0) else (some 1))) none)
theorem zd29_0 : decode zxm29.2.1 0 = .ok (.aload_n 0, 1) := by decide +kernel
theorem zd29_1 : decode zxm29.2.1 1 = .ok (.getfield 9, 3) := by decide +kernel
theorem zd29_4 : decode zxm29.2.1 4 = .ok (.iload_n 1, 1) := by decide +kernel
theorem zd29_5 : decode zxm29.2.1 5 = .ok (.invokestatic 22, 3) := by decide +kernel
theorem zd29_8 : decode zxm29.2.1 8 = .ok (.iaload, 1) := by decide +kernel
theorem zd29_9 : decode zxm29.2.1 9 = .ok (.iload_n 1, 1) := by decide +kernel
theorem zd29_10 : decode zxm29.2.1 10 = .ok (.invokestatic 26, 3) := by decide +kernel
theorem zd29_13 : decode zxm29.2.1 13 = .ok (.ishr, 1) := by decide +kernel
theorem zd29_14 : decode zxm29.2.1 14 = .ok (.iconst 1, 1) := by decide +kernel
theorem zd29_15 : decode zxm29.2.1 15 = .ok (.iand, 1) := by decide +kernel
theorem zd29_16 : decode zxm29.2.1 16 = .ok (.ifCond .eq 7, 3) := by decide +kernel
theorem zd29_19 : decode zxm29.2.1 19 = .ok (.iconst 1, 1) := by decide +kernel
theorem zd29_20 : decode zxm29.2.1 20 = .ok (.goto 4, 3) := by decide +kernel
theorem zd29_23 : decode zxm29.2.1 23 = .ok (.iconst 0, 1) := by decide +kernel
theorem zd29_24 : decode zxm29.2.1 24 = .ok (.ireturn, 1) := by decide +kernel
theorem zt_Sea_isLand {x1 : Int} {g0 : (Int → Int)} {o : Int} (h : zf_Sea_isLand x1 g0 = some o) : zv_Fn z_TB z_cl z_KX zy_Sea_isLand zxm29 (1, 60) [.inr 0, .inl x1] [] [g0] (some o) [] [g0] := zv_meth (K := (z_KF7, z_KC7, z_KL7, z_KT7, [], [], [], none)) (FT := z_FT) (MT := z_MT) (n := 2) zxp29 (z_ks7 _ (fun _ h => List.mem_cons_of_mem _ h) _ _ _ _ (fun j r h _ => by cases h)) (fun _ _ => zs_KX_p) zyw_Sea_isLand (fun va F G h => by obtain ⟨rfl, _⟩ := h; rfl) (fun va F G h => by obtain ⟨rfl, _⟩ := h; rfl) rfl fun good va F G hB hret hvret hP => by
  obtain ⟨rfl, rfl, rfl⟩ := hP
  unfold zf_Sea_isLand at h
  refine zv_ald hB zd29_0 rfl rfl rfl ?_
  refine zv_getr hB zd29_1 rfl ?_
  refine zv_ild hB zd29_4 rfl rfl ?_
  obtain ⟨r1, hr1, h⟩ := zi_bind h
  refine zv_cs hB (zv_emq (va2 := [.inl x1]) (F := []) (F' := []) (G := [g0]) (G' := [g0]) (ρ := []) (φ := []) (ψ := []) [] [none] zyw_X_rowOf zyw_Sea_isLand zye_Sea_isLand (by decide +kernel) (zt_X_rowOf hr1) trivial trivial rfl rfl rfl rfl rfl rfl rfl) zd29_5 zxt30 rfl (by decide) (by decide) rfl ?_
  obtain ⟨c2, h⟩ := zi_if h
  refine zv_iald hB zd29_8 rfl rfl (zi_ix_ok c2).1 (zi_ix_ok c2).2 (fun _ _ => ?_)
  refine zv_ild hB zd29_9 rfl rfl ?_
  obtain ⟨r3, hr3, h⟩ := zi_bind h
  refine zv_cs hB (zv_emq (va2 := [.inl x1]) (F := []) (F' := []) (G := [g0]) (G' := [g0]) (ρ := []) (φ := []) (ψ := []) [] [none] zyw_X_columnOf zyw_Sea_isLand zye_Sea_isLand (by decide +kernel) (zt_X_columnOf hr3) trivial trivial rfl rfl rfl rfl rfl rfl rfl) zd29_10 zxt31 rfl (by decide) (by decide) rfl ?_
  refine zv_shrw hB zd29_13 ?_
  refine zv_con hB zd29_14 rfl ?_
  refine zv_andw hB zd29_15 ?_
  refine zv_zeq hB zd29_16 rfl (fun hc4 => ?_) (fun hc4 => ?_)
  · rw [if_pos hc4] at h
    refine zv_con hB zd29_23 rfl ?_
    have hw := Option.some.inj h
    subst hw
    exact hret _ _ _ _ _ zd29_24 (by constructor <;> decide) ⟨rfl, rfl, rfl⟩
  · rw [if_neg hc4] at h
    refine zv_con hB zd29_19 rfl ?_
    refine zv_goto hB zd29_20 rfl ?_
    have hw := Option.some.inj h
    subst hw
    exact hret _ _ _ _ _ zd29_24 (by constructor <;> decide) ⟨rfl, rfl, rfl⟩
/-! X_ship (III)Z -/
-- names: 0 StarTales('arg', 0), 1 Sea(0, 0, 3), 2 (0, 12)(1, 2, 0), 3 (0, 6)(1, 2, 2)
-- fields: f0 = 1.shipsTold_; arrays: g0 = 2, g1 = 3; out: [('ret', None), ('f', 0), ('g', 1)]
abbrev zy_X_ship : zNL := (4, [(0, 0), (1, 2)], [(1, 2, 1, 0)], [(0, 0, 3, 1), (1, 2, 0, 2), (1, 2, 2, 3)], [(2, 0, 12, 0), (3, 0, 6, 1)])
theorem zyw_X_ship : zv_wf zy_X_ship = true := by decide +kernel
theorem zye_X_ship : zv_ek2 zy_X_ship = true := by decide +kernel
def zf_X_ship (x1 : Int) (x2 : Int) (x3 : Int) (f0 : Int) (g0 : (Int → Int)) (g1 : (Int → Int)) : Option (Int × Int × (Int → Int)) := (zf_X_isWithin x1 0 5).bind fun r1 => (if r1 = 0 then (some (0, f0, g1)) else ((zf_X_isPlace x2 x3).bind fun r3 => (if r3 = 0 then (some (0, f0, g1)) else ((zf_X_placeOf x2 x3).bind fun r5 => ((zf_Sea_isLand r5 g0).bind fun r6 => (if r6 = 0 then ((zf_X_placeOf x2 x3).bind fun r8 => (cond (zi_ix x1 6) (some (1, (zi_or f0 (zi_shl 1 x1)), (zv_up g1 x1 r8))) none)) else (some (0, f0, g1))))))))
theorem zd28_0 : decode zxm28.2.1 0 = .ok (.iload_n 1, 1) := by decide +kernel
theorem zd28_1 : decode zxm28.2.1 1 = .ok (.iconst 0, 1) := by decide +kernel
theorem zd28_2 : decode zxm28.2.1 2 = .ok (.iconst 5, 1) := by decide +kernel
theorem zd28_3 : decode zxm28.2.1 3 = .ok (.invokestatic 126, 3) := by decide +kernel
theorem zd28_6 : decode zxm28.2.1 6 = .ok (.ifCond .eq 26, 3) := by decide +kernel
theorem zd28_9 : decode zxm28.2.1 9 = .ok (.iload_n 2, 1) := by decide +kernel
theorem zd28_10 : decode zxm28.2.1 10 = .ok (.iload_n 3, 1) := by decide +kernel
theorem zd28_11 : decode zxm28.2.1 11 = .ok (.invokestatic 130, 3) := by decide +kernel
theorem zd28_14 : decode zxm28.2.1 14 = .ok (.ifCond .eq 18, 3) := by decide +kernel
theorem zd28_17 : decode zxm28.2.1 17 = .ok (.aload_n 0, 1) := by decide +kernel
theorem zd28_18 : decode zxm28.2.1 18 = .ok (.getfield 25, 3) := by decide +kernel
theorem zd28_21 : decode zxm28.2.1 21 = .ok (.iload_n 2, 1) := by decide +kernel
theorem zd28_22 : decode zxm28.2.1 22 = .ok (.iload_n 3, 1) := by decide +kernel
theorem zd28_23 : decode zxm28.2.1 23 = .ok (.invokestatic 170, 3) := by decide +kernel
theorem zd28_26 : decode zxm28.2.1 26 = .ok (.invokevirtual 181, 3) := by decide +kernel
theorem zd28_29 : decode zxm28.2.1 29 = .ok (.ifCond .eq 5, 3) := by decide +kernel
theorem zd28_32 : decode zxm28.2.1 32 = .ok (.iconst 0, 1) := by decide +kernel
theorem zd28_33 : decode zxm28.2.1 33 = .ok (.ireturn, 1) := by decide +kernel
theorem zd28_34 : decode zxm28.2.1 34 = .ok (.aload_n 0, 1) := by decide +kernel
theorem zd28_35 : decode zxm28.2.1 35 = .ok (.getfield 25, 3) := by decide +kernel
theorem zd28_38 : decode zxm28.2.1 38 = .ok (.dup, 1) := by decide +kernel
theorem zd28_39 : decode zxm28.2.1 39 = .ok (.getfield 184, 3) := by decide +kernel
theorem zd28_42 : decode zxm28.2.1 42 = .ok (.iconst 1, 1) := by decide +kernel
theorem zd28_43 : decode zxm28.2.1 43 = .ok (.iload_n 1, 1) := by decide +kernel
theorem zd28_44 : decode zxm28.2.1 44 = .ok (.ishl, 1) := by decide +kernel
theorem zd28_45 : decode zxm28.2.1 45 = .ok (.ior, 1) := by decide +kernel
theorem zd28_46 : decode zxm28.2.1 46 = .ok (.putfield 184, 3) := by decide +kernel
theorem zd28_49 : decode zxm28.2.1 49 = .ok (.aload_n 0, 1) := by decide +kernel
theorem zd28_50 : decode zxm28.2.1 50 = .ok (.getfield 25, 3) := by decide +kernel
theorem zd28_53 : decode zxm28.2.1 53 = .ok (.getfield 187, 3) := by decide +kernel
theorem zd28_56 : decode zxm28.2.1 56 = .ok (.iload_n 1, 1) := by decide +kernel
theorem zd28_57 : decode zxm28.2.1 57 = .ok (.iload_n 2, 1) := by decide +kernel
theorem zd28_58 : decode zxm28.2.1 58 = .ok (.iload_n 3, 1) := by decide +kernel
theorem zd28_59 : decode zxm28.2.1 59 = .ok (.invokestatic 170, 3) := by decide +kernel
theorem zd28_62 : decode zxm28.2.1 62 = .ok (.iastore, 1) := by decide +kernel
theorem zd28_63 : decode zxm28.2.1 63 = .ok (.iconst 1, 1) := by decide +kernel
theorem zd28_64 : decode zxm28.2.1 64 = .ok (.ireturn, 1) := by decide +kernel
theorem zt_X_ship {x1 : Int} {x2 : Int} {x3 : Int} {f0 : Int} {g0 : (Int → Int)} {g1 : (Int → Int)} {o : Int × Int × (Int → Int)} (h : zf_X_ship x1 x2 x3 f0 g0 g1 = some o) : zv_Fn z_TB z_cl z_KX zy_X_ship zxm28 (2, 120) [.inr 0, .inl x1, .inl x2, .inl x3] [.inl f0] [g0, g1] (some o.1) [.inl o.2.1] [g0, o.2.2] := zv_meth (K := (z_KF0, z_KC0, z_KL0, z_KT0, [], [], [], none)) (FT := z_FT) (MT := z_MT) (n := 4) zxp28 (z_ks0 _ (fun _ h => List.mem_cons_of_mem _ h) _ _ _ _ (fun j r h _ => by cases h)) (fun _ _ => zs_KX_p) zyw_X_ship (fun va F G h => by obtain ⟨rfl, _⟩ := h; rfl) (fun va F G h => by obtain ⟨rfl, _⟩ := h; rfl) rfl fun good va F G hB hret hvret hP => by
  obtain ⟨rfl, rfl, rfl⟩ := hP
  unfold zf_X_ship at h
  refine zv_ild hB zd28_0 rfl rfl ?_
  refine zv_con hB zd28_1 rfl ?_
  refine zv_con hB zd28_2 rfl ?_
  obtain ⟨r1, hr1, h⟩ := zi_bind h
  refine zv_cs hB (zv_emq (va2 := [.inl x1, .inl 0, .inl 5]) (F := [.inl f0]) (F' := [.inl f0]) (G := [g0, g1]) (G' := [g0, g1]) (ρ := []) (φ := []) (ψ := []) [none] [none, none] zyw_X_isWithin zyw_X_ship zye_X_ship (by decide +kernel) (zt_X_isWithin hr1) trivial trivial rfl rfl rfl rfl rfl rfl rfl) zd28_3 zxt15 rfl (by decide) (by decide) rfl ?_
  refine zv_zeq hB zd28_6 rfl (fun hc2 => ?_) (fun hc2 => ?_)
  · rw [if_pos hc2] at h
    refine zv_con hB zd28_32 rfl ?_
    have hw := Option.some.inj h
    subst hw
    exact hret _ _ _ _ _ zd28_33 (by constructor <;> decide) ⟨rfl, rfl, rfl⟩
  · rw [if_neg hc2] at h
    refine zv_ild hB zd28_9 rfl rfl ?_
    refine zv_ild hB zd28_10 rfl rfl ?_
    obtain ⟨r3, hr3, h⟩ := zi_bind h
    refine zv_cs hB (zv_emq (va2 := [.inl x2, .inl x3]) (F := [.inl f0]) (F' := [.inl f0]) (G := [g0, g1]) (G' := [g0, g1]) (ρ := []) (φ := []) (ψ := []) [none] [none, none] zyw_X_isPlace zyw_X_ship zye_X_ship (by decide +kernel) (zt_X_isPlace hr3) trivial trivial rfl rfl rfl rfl rfl rfl rfl) zd28_11 zxt16 rfl (by decide) (by decide) rfl ?_
    refine zv_zeq hB zd28_14 rfl (fun hc4 => ?_) (fun hc4 => ?_)
    · rw [if_pos hc4] at h
      refine zv_con hB zd28_32 rfl ?_
      have hw := Option.some.inj h
      subst hw
      exact hret _ _ _ _ _ zd28_33 (by constructor <;> decide) ⟨rfl, rfl, rfl⟩
    · rw [if_neg hc4] at h
      refine zv_ald hB zd28_17 rfl rfl rfl ?_
      refine zv_getr hB zd28_18 rfl ?_
      refine zv_ild hB zd28_21 rfl rfl ?_
      refine zv_ild hB zd28_22 rfl rfl ?_
      obtain ⟨r5, hr5, h⟩ := zi_bind h
      refine zv_cs hB (zv_emq (va2 := [.inl x2, .inl x3]) (F := [.inl f0]) (F' := [.inl f0]) (G := [g0, g1]) (G' := [g0, g1]) (ρ := []) (φ := []) (ψ := []) [none] [none, none] zyw_X_placeOf zyw_X_ship zye_X_ship (by decide +kernel) (zt_X_placeOf hr5) trivial trivial rfl rfl rfl rfl rfl rfl rfl) zd28_23 zxt24 rfl (by decide) (by decide) rfl ?_
      obtain ⟨r6, hr6, h⟩ := zi_bind h
      refine zv_cv hB (zv_emq (va2 := [.inr 1, .inl r5]) (F := [.inl f0]) (F' := [.inl f0]) (G := [g0, g1]) (G' := [g0, g1]) (ρ := [1, 2]) (φ := []) (ψ := [0]) [none] [some 0, none] zyw_Sea_isLand zyw_X_ship zye_X_ship (by decide +kernel) (zt_Sea_isLand hr6) trivial ⟨rfl, trivial⟩ rfl rfl rfl rfl rfl rfl rfl) zd28_26 zxt29 rfl (by decide) (by decide) rfl ?_
      refine zv_zeq hB zd28_29 rfl (fun hc7 => ?_) (fun hc7 => ?_)
      · rw [if_pos hc7] at h
        refine zv_ald hB zd28_34 rfl rfl rfl ?_
        refine zv_getr hB zd28_35 rfl ?_
        refine zv_dup hB zd28_38 rfl ?_
        refine zv_getf hB zd28_39 rfl rfl (fun _ _ => ?_)
        refine zv_con hB zd28_42 rfl ?_
        refine zv_ild hB zd28_43 rfl rfl ?_
        refine zv_shlw hB zd28_44 ?_
        refine zv_orw hB zd28_45 ?_
        refine zv_putf hB zd28_46 rfl rfl (fun h => by cases h) rfl ?_
        refine zv_ald hB zd28_49 rfl rfl rfl ?_
        refine zv_getr hB zd28_50 rfl ?_
        refine zv_getr hB zd28_53 rfl ?_
        refine zv_ild hB zd28_56 rfl rfl ?_
        refine zv_ild hB zd28_57 rfl rfl ?_
        refine zv_ild hB zd28_58 rfl rfl ?_
        obtain ⟨r8, hr8, h⟩ := zi_bind h
        refine zv_cs hB (zv_emq (va2 := [.inl x2, .inl x3]) (F := [.inl (zi_or f0 (zi_shl 1 x1))]) (F' := [.inl (zi_or f0 (zi_shl 1 x1))]) (G := [g0, g1]) (G' := [g0, g1]) (ρ := []) (φ := []) (ψ := []) [none] [none, none] zyw_X_placeOf zyw_X_ship zye_X_ship (by decide +kernel) (zt_X_placeOf hr8) trivial trivial rfl rfl rfl rfl rfl rfl rfl) zd28_59 zxt24 rfl (by decide) (by decide) rfl ?_
        obtain ⟨c9, h⟩ := zi_if h
        refine zv_iast hB zd28_62 rfl rfl (zi_ix_ok c9).1 (zi_ix_ok c9).2 ?_
        refine zv_con hB zd28_63 rfl ?_
        have hw := Option.some.inj h
        subst hw
        exact hret _ _ _ _ _ zd28_64 (by constructor <;> decide) ⟨rfl, rfl, rfl⟩
      · rw [if_neg hc7] at h
        refine zv_con hB zd28_32 rfl ?_
        have hw := Option.some.inj h
        subst hw
        exact hret _ _ _ _ _ zd28_33 (by constructor <;> decide) ⟨rfl, rfl, rfl⟩
/-! Tape_addNumber (I)V -/
-- names: 0 Tape('arg', 0), 1 (0, 220)(0, 3, 0)
-- fields: f0 = 0.size_; arrays: g0 = 1; out: [('f', 0), ('g', 0)]
abbrev zy_Tape_addNumber : zNL := (2, [(0, 3)], [(0, 3, 1, 0)], [(0, 3, 0, 1)], [(1, 0, 220, 0)])
theorem zyw_Tape_addNumber : zv_wf zy_Tape_addNumber = true := by decide +kernel
theorem zye_Tape_addNumber : zv_ek2 zy_Tape_addNumber = true := by decide +kernel
def zf_Tape_addNumber_l0_b (x1 : Int) (rec : Int → Int → (Int → Int) → Option (Int × (Int → Int))) (x2 : Int) (f0 : Int) (g0 : (Int → Int)) : Option (Int × (Int → Int)) := if x2 < 0 then (some (f0, g0)) else (if f0 < 220 then (cond (zi_ix f0 220) (rec (zi_w (x2 + (-8))) (zi_w (f0 + 1)) (zv_up g0 f0 (zi_and (zi_ush x1 x2) 255))) none) else (some (f0, g0)))
def zf_Tape_addNumber_l0 (x1 : Int) : Nat → Int → Int → (Int → Int) → Option (Int × (Int → Int))
  | 0, _, _, _ => none
  | n + 1, x2, f0, g0 => zf_Tape_addNumber_l0_b x1 (zf_Tape_addNumber_l0 x1 n) x2 f0 g0
def zf_Tape_addNumber (x1 : Int) (f0 : Int) (g0 : (Int → Int)) : Option (Int × (Int → Int)) := (zf_Tape_addNumber_l0 x1 zi_fu 24 f0 g0).bind fun q4 => (some (q4.1, q4.2))
theorem zd33_0 : decode zxm33.2.1 0 = .ok (.bipush 24, 2) := by decide +kernel
theorem zd33_2 : decode zxm33.2.1 2 = .ok (.istore_n 2, 1) := by decide +kernel
theorem zd33_3 : decode zxm33.2.1 3 = .ok (.iload_n 2, 1) := by decide +kernel
theorem zd33_4 : decode zxm33.2.1 4 = .ok (.ifCond .lt 45, 3) := by decide +kernel
theorem zd33_7 : decode zxm33.2.1 7 = .ok (.aload_n 0, 1) := by decide +kernel
theorem zd33_8 : decode zxm33.2.1 8 = .ok (.getfield 13, 3) := by decide +kernel
theorem zd33_11 : decode zxm33.2.1 11 = .ok (.sipush 220, 3) := by decide +kernel
theorem zd33_14 : decode zxm33.2.1 14 = .ok (.if_icmp .ge 35, 3) := by decide +kernel
theorem zd33_17 : decode zxm33.2.1 17 = .ok (.aload_n 0, 1) := by decide +kernel
theorem zd33_18 : decode zxm33.2.1 18 = .ok (.getfield 9, 3) := by decide +kernel
theorem zd33_21 : decode zxm33.2.1 21 = .ok (.aload_n 0, 1) := by decide +kernel
theorem zd33_22 : decode zxm33.2.1 22 = .ok (.getfield 13, 3) := by decide +kernel
theorem zd33_25 : decode zxm33.2.1 25 = .ok (.iload_n 1, 1) := by decide +kernel
theorem zd33_26 : decode zxm33.2.1 26 = .ok (.iload_n 2, 1) := by decide +kernel
theorem zd33_27 : decode zxm33.2.1 27 = .ok (.iushr, 1) := by decide +kernel
theorem zd33_28 : decode zxm33.2.1 28 = .ok (.sipush 255, 3) := by decide +kernel
theorem zd33_31 : decode zxm33.2.1 31 = .ok (.iand, 1) := by decide +kernel
theorem zd33_32 : decode zxm33.2.1 32 = .ok (.iastore, 1) := by decide +kernel
theorem zd33_33 : decode zxm33.2.1 33 = .ok (.aload_n 0, 1) := by decide +kernel
theorem zd33_34 : decode zxm33.2.1 34 = .ok (.dup, 1) := by decide +kernel
theorem zd33_35 : decode zxm33.2.1 35 = .ok (.getfield 13, 3) := by decide +kernel
theorem zd33_38 : decode zxm33.2.1 38 = .ok (.iconst 1, 1) := by decide +kernel
theorem zd33_39 : decode zxm33.2.1 39 = .ok (.iadd, 1) := by decide +kernel
theorem zd33_40 : decode zxm33.2.1 40 = .ok (.putfield 13, 3) := by decide +kernel
theorem zd33_43 : decode zxm33.2.1 43 = .ok (.iinc 2 (-8), 3) := by decide +kernel
theorem zd33_46 : decode zxm33.2.1 46 = .ok (.goto (-43), 3) := by decide +kernel
theorem zd33_49 : decode zxm33.2.1 49 = .ok (.return_, 1) := by decide +kernel
theorem zt_Tape_addNumber {x1 : Int} {f0 : Int} {g0 : (Int → Int)} {o : Int × (Int → Int)} (h : zf_Tape_addNumber x1 f0 g0 = some o) : zv_Fn z_TB z_cl z_KX zy_Tape_addNumber zxm33 (0, 0) [.inr 0, .inl x1] [.inl f0] [g0] none [.inl o.1] [o.2] := zv_meth (K := (z_KF10, z_KC10, z_KL10, z_KT10, [], [], [], none)) (FT := z_FT) (MT := z_MT) (n := 2) zxp33 (z_ks10 _ (fun _ h => List.mem_cons_of_mem _ h) _ _ _ _ (fun j r h _ => by cases h)) (fun _ _ => zs_KX_p) zyw_Tape_addNumber (fun va F G h => by obtain ⟨rfl, _⟩ := h; rfl) (fun va F G h => by obtain ⟨rfl, _⟩ := h; rfl) rfl fun good va F G hB hret hvret hP => by
  obtain ⟨rfl, rfl, rfl⟩ := hP
  have l0 : ∀ (n : Nat) (x1 : Int) (x2 : Int) (f0 : Int) (g0 : (Int → Int)) (q : Int × (Int → Int)), zf_Tape_addNumber_l0 x1 n x2 f0 g0 = some q → (good 49 [.inr 1000, .inr 1000, .inr 1000] [] [.inl q.1] [q.2]) → good 3 [.inr 0, .inl x1, .inl x2] [] [.inl f0] [g0] := by
    intro n
    induction n with
    | zero => intro x1 x2 f0 g0 q h; exact absurd (show none = some q from h) (fun h => by cases h)
    | succ n ih =>
      intro x1 x2 f0 g0 q h hK
      replace h : zf_Tape_addNumber_l0_b x1 (zf_Tape_addNumber_l0 x1 n) x2 f0 g0 = some q := h
      unfold zf_Tape_addNumber_l0_b at h
      refine zv_ild hB zd33_3 rfl rfl ?_
      refine zv_zlt hB zd33_4 rfl (fun hc1 => ?_) (fun hc1 => ?_)
      · rw [if_pos hc1] at h
        have hq := Option.some.inj h
        subst hq
        refine zv_wk hB (L' := [.inr 1000, .inr 1000, .inr 1000]) (F' := [.inl f0]) ⟨fun (h : zv_is (.inr 1000)) => (Nat.lt_irrefl 1000 h).elim, fun (h : zv_is (.inr 1000)) => (Nat.lt_irrefl 1000 h).elim, fun (h : zv_is (.inr 1000)) => (Nat.lt_irrefl 1000 h).elim, trivial⟩ ⟨fun _ => rfl, trivial⟩ ?_
        exact hK
      · rw [if_neg (Int.not_lt.mpr hc1)] at h
        refine zv_ald hB zd33_7 rfl rfl rfl ?_
        refine zv_getf hB zd33_8 rfl rfl (fun _ _ => ?_)
        refine zv_con hB zd33_11 rfl ?_
        refine zv_cge hB zd33_14 rfl (fun hc2 => ?_) (fun hc2 => ?_)
        · rw [if_neg (Int.not_lt.mpr hc2)] at h
          have hq := Option.some.inj h
          subst hq
          refine zv_wk hB (L' := [.inr 1000, .inr 1000, .inr 1000]) (F' := [.inl f0]) ⟨fun (h : zv_is (.inr 1000)) => (Nat.lt_irrefl 1000 h).elim, fun (h : zv_is (.inr 1000)) => (Nat.lt_irrefl 1000 h).elim, fun (h : zv_is (.inr 1000)) => (Nat.lt_irrefl 1000 h).elim, trivial⟩ ⟨fun _ => rfl, trivial⟩ ?_
          exact hK
        · rw [if_pos hc2] at h
          refine zv_ald hB zd33_17 rfl rfl rfl ?_
          refine zv_getr hB zd33_18 rfl ?_
          refine zv_ald hB zd33_21 rfl rfl rfl ?_
          refine zv_getf hB zd33_22 rfl rfl (fun _ _ => ?_)
          refine zv_ild hB zd33_25 rfl rfl ?_
          refine zv_ild hB zd33_26 rfl rfl ?_
          refine zv_ushw hB zd33_27 ?_
          refine zv_con hB zd33_28 rfl ?_
          refine zv_andw hB zd33_31 ?_
          obtain ⟨c3, h⟩ := zi_if h
          refine zv_iast hB zd33_32 rfl rfl (zi_ix_ok c3).1 (zi_ix_ok c3).2 ?_
          refine zv_ald hB zd33_33 rfl rfl rfl ?_
          refine zv_dup hB zd33_34 rfl ?_
          refine zv_getf hB zd33_35 rfl rfl (fun _ _ => ?_)
          refine zv_con hB zd33_38 rfl ?_
          refine zv_addw hB zd33_39 ?_
          refine zv_putf hB zd33_40 rfl rfl (fun h => by cases h) rfl ?_
          refine zv_iincw hB zd33_43 rfl rfl ?_
          refine zv_goto hB zd33_46 rfl ?_
          exact ih _ _ _ _ q h hK
  unfold zf_Tape_addNumber at h
  refine zv_con hB zd33_0 rfl ?_
  refine zv_ist hB zd33_2 rfl rfl rfl ?_
  obtain ⟨q4, hq4, h⟩ := zi_bind h
  refine l0 _ _ _ _ _ q4 hq4 ?_
  show good 49 [.inr 1000, .inr 1000, .inr 1000] [] [.inl q4.1] [q4.2]
  have hw := Option.some.inj h
  subst hw
  exact hvret _ _ _ _ zd33_49 trivial ⟨rfl, rfl, rfl⟩
/-! X_feed (IIIII)I -/
-- names: 0 StarTales('arg', 0), 1 Tape(0, 0, 6), 2 (0, 220)(1, 3, 0)
-- fields: f0 = 1.size_; arrays: g0 = 2; out: [('ret', None), ('f', 0), ('g', 0)]
abbrev zy_X_feed : zNL := (3, [(0, 0), (1, 3)], [(1, 3, 1, 0)], [(0, 0, 6, 1), (1, 3, 0, 2)], [(2, 0, 220, 0)])
theorem zyw_X_feed : zv_wf zy_X_feed = true := by decide +kernel
theorem zye_X_feed : zv_ek2 zy_X_feed = true := by decide +kernel
def zf_X_feed (x1 : Int) (x2 : Int) (x3 : Int) (x4 : Int) (x5 : Int) (f0 : Int) (g0 : (Int → Int)) : Option (Int × Int × (Int → Int)) := if 200 < f0 then (some ((-1), f0, g0)) else ((zf_Tape_addNumber x1 f0 g0).bind fun r2 => ((zf_Tape_addNumber x2 r2.1 r2.2).bind fun r3 => ((zf_Tape_addNumber x3 r3.1 r3.2).bind fun r4 => ((zf_Tape_addNumber x4 r4.1 r4.2).bind fun r5 => ((zf_Tape_addNumber x5 r5.1 r5.2).bind fun r6 => (some (r6.1, r6.1, r6.2)))))))
theorem zd32_0 : decode zxm32.2.1 0 = .ok (.aload_n 0, 1) := by decide +kernel
theorem zd32_1 : decode zxm32.2.1 1 = .ok (.getfield 39, 3) := by decide +kernel
theorem zd32_4 : decode zxm32.2.1 4 = .ok (.getfield 190, 3) := by decide +kernel
theorem zd32_7 : decode zxm32.2.1 7 = .ok (.sipush 200, 3) := by decide +kernel
theorem zd32_10 : decode zxm32.2.1 10 = .ok (.if_icmp .le 5, 3) := by decide +kernel
theorem zd32_13 : decode zxm32.2.1 13 = .ok (.iconst (-1), 1) := by decide +kernel
theorem zd32_14 : decode zxm32.2.1 14 = .ok (.ireturn, 1) := by decide +kernel
theorem zd32_15 : decode zxm32.2.1 15 = .ok (.aload_n 0, 1) := by decide +kernel
theorem zd32_16 : decode zxm32.2.1 16 = .ok (.getfield 39, 3) := by decide +kernel
theorem zd32_19 : decode zxm32.2.1 19 = .ok (.iload_n 1, 1) := by decide +kernel
theorem zd32_20 : decode zxm32.2.1 20 = .ok (.invokevirtual 193, 3) := by decide +kernel
theorem zd32_23 : decode zxm32.2.1 23 = .ok (.aload_n 0, 1) := by decide +kernel
theorem zd32_24 : decode zxm32.2.1 24 = .ok (.getfield 39, 3) := by decide +kernel
theorem zd32_27 : decode zxm32.2.1 27 = .ok (.iload_n 2, 1) := by decide +kernel
theorem zd32_28 : decode zxm32.2.1 28 = .ok (.invokevirtual 193, 3) := by decide +kernel
theorem zd32_31 : decode zxm32.2.1 31 = .ok (.aload_n 0, 1) := by decide +kernel
theorem zd32_32 : decode zxm32.2.1 32 = .ok (.getfield 39, 3) := by decide +kernel
theorem zd32_35 : decode zxm32.2.1 35 = .ok (.iload_n 3, 1) := by decide +kernel
theorem zd32_36 : decode zxm32.2.1 36 = .ok (.invokevirtual 193, 3) := by decide +kernel
theorem zd32_39 : decode zxm32.2.1 39 = .ok (.aload_n 0, 1) := by decide +kernel
theorem zd32_40 : decode zxm32.2.1 40 = .ok (.getfield 39, 3) := by decide +kernel
theorem zd32_43 : decode zxm32.2.1 43 = .ok (.iload 4, 2) := by decide +kernel
theorem zd32_45 : decode zxm32.2.1 45 = .ok (.invokevirtual 193, 3) := by decide +kernel
theorem zd32_48 : decode zxm32.2.1 48 = .ok (.aload_n 0, 1) := by decide +kernel
theorem zd32_49 : decode zxm32.2.1 49 = .ok (.getfield 39, 3) := by decide +kernel
theorem zd32_52 : decode zxm32.2.1 52 = .ok (.iload 5, 2) := by decide +kernel
theorem zd32_54 : decode zxm32.2.1 54 = .ok (.invokevirtual 193, 3) := by decide +kernel
theorem zd32_57 : decode zxm32.2.1 57 = .ok (.aload_n 0, 1) := by decide +kernel
theorem zd32_58 : decode zxm32.2.1 58 = .ok (.getfield 39, 3) := by decide +kernel
theorem zd32_61 : decode zxm32.2.1 61 = .ok (.getfield 190, 3) := by decide +kernel
theorem zd32_64 : decode zxm32.2.1 64 = .ok (.ireturn, 1) := by decide +kernel
theorem zt_X_feed {x1 : Int} {x2 : Int} {x3 : Int} {x4 : Int} {x5 : Int} {f0 : Int} {g0 : (Int → Int)} {o : Int × Int × (Int → Int)} (h : zf_X_feed x1 x2 x3 x4 x5 f0 g0 = some o) : zv_Fn z_TB z_cl z_KX zy_X_feed zxm32 (1, 60) [.inr 0, .inl x1, .inl x2, .inl x3, .inl x4, .inl x5] [.inl f0] [g0] (some o.1) [.inl o.2.1] [o.2.2] := zv_meth (K := (z_KF0, z_KC0, z_KL0, z_KT0, [], [], [], none)) (FT := z_FT) (MT := z_MT) (n := 6) zxp32 (z_ks0 _ (fun _ h => List.mem_cons_of_mem _ h) _ _ _ _ (fun j r h _ => by cases h)) (fun _ _ => zs_KX_p) zyw_X_feed (fun va F G h => by obtain ⟨rfl, _⟩ := h; rfl) (fun va F G h => by obtain ⟨rfl, _⟩ := h; rfl) rfl fun good va F G hB hret hvret hP => by
  obtain ⟨rfl, rfl, rfl⟩ := hP
  unfold zf_X_feed at h
  refine zv_ald hB zd32_0 rfl rfl rfl ?_
  refine zv_getr hB zd32_1 rfl ?_
  refine zv_getf hB zd32_4 rfl rfl (fun _ _ => ?_)
  refine zv_con hB zd32_7 rfl ?_
  refine zv_cle hB zd32_10 rfl (fun hc1 => ?_) (fun hc1 => ?_)
  · rw [if_neg (Int.not_lt.mpr hc1)] at h
    refine zv_ald hB zd32_15 rfl rfl rfl ?_
    refine zv_getr hB zd32_16 rfl ?_
    refine zv_ild hB zd32_19 rfl rfl ?_
    obtain ⟨r2, hr2, h⟩ := zi_bind h
    refine zv_cv hB (zv_emq (va2 := [.inr 1, .inl x1]) (F := [.inl f0]) (F' := [.inl r2.1]) (G := [g0]) (G' := [r2.2]) (ρ := [1, 2]) (φ := [0]) (ψ := [0]) [some 0] [some 0] zyw_Tape_addNumber zyw_X_feed zye_X_feed (by decide +kernel) (zt_Tape_addNumber hr2) ⟨⟨_, rfl, fun _ => rfl⟩, trivial⟩ ⟨rfl, trivial⟩ rfl rfl rfl rfl rfl rfl rfl) zd32_20 zxt33 rfl (by decide) (by decide) rfl ?_
    refine zv_ald hB zd32_23 rfl rfl rfl ?_
    refine zv_getr hB zd32_24 rfl ?_
    refine zv_ild hB zd32_27 rfl rfl ?_
    obtain ⟨r3, hr3, h⟩ := zi_bind h
    refine zv_cv hB (zv_emq (va2 := [.inr 1, .inl x2]) (F := [.inl r2.1]) (F' := [.inl r3.1]) (G := [r2.2]) (G' := [r3.2]) (ρ := [1, 2]) (φ := [0]) (ψ := [0]) [some 0] [some 0] zyw_Tape_addNumber zyw_X_feed zye_X_feed (by decide +kernel) (zt_Tape_addNumber hr3) ⟨⟨_, rfl, fun _ => rfl⟩, trivial⟩ ⟨rfl, trivial⟩ rfl rfl rfl rfl rfl rfl rfl) zd32_28 zxt33 rfl (by decide) (by decide) rfl ?_
    refine zv_ald hB zd32_31 rfl rfl rfl ?_
    refine zv_getr hB zd32_32 rfl ?_
    refine zv_ild hB zd32_35 rfl rfl ?_
    obtain ⟨r4, hr4, h⟩ := zi_bind h
    refine zv_cv hB (zv_emq (va2 := [.inr 1, .inl x3]) (F := [.inl r3.1]) (F' := [.inl r4.1]) (G := [r3.2]) (G' := [r4.2]) (ρ := [1, 2]) (φ := [0]) (ψ := [0]) [some 0] [some 0] zyw_Tape_addNumber zyw_X_feed zye_X_feed (by decide +kernel) (zt_Tape_addNumber hr4) ⟨⟨_, rfl, fun _ => rfl⟩, trivial⟩ ⟨rfl, trivial⟩ rfl rfl rfl rfl rfl rfl rfl) zd32_36 zxt33 rfl (by decide) (by decide) rfl ?_
    refine zv_ald hB zd32_39 rfl rfl rfl ?_
    refine zv_getr hB zd32_40 rfl ?_
    refine zv_ild hB zd32_43 rfl rfl ?_
    obtain ⟨r5, hr5, h⟩ := zi_bind h
    refine zv_cv hB (zv_emq (va2 := [.inr 1, .inl x4]) (F := [.inl r4.1]) (F' := [.inl r5.1]) (G := [r4.2]) (G' := [r5.2]) (ρ := [1, 2]) (φ := [0]) (ψ := [0]) [some 0] [some 0] zyw_Tape_addNumber zyw_X_feed zye_X_feed (by decide +kernel) (zt_Tape_addNumber hr5) ⟨⟨_, rfl, fun _ => rfl⟩, trivial⟩ ⟨rfl, trivial⟩ rfl rfl rfl rfl rfl rfl rfl) zd32_45 zxt33 rfl (by decide) (by decide) rfl ?_
    refine zv_ald hB zd32_48 rfl rfl rfl ?_
    refine zv_getr hB zd32_49 rfl ?_
    refine zv_ild hB zd32_52 rfl rfl ?_
    obtain ⟨r6, hr6, h⟩ := zi_bind h
    refine zv_cv hB (zv_emq (va2 := [.inr 1, .inl x5]) (F := [.inl r5.1]) (F' := [.inl r6.1]) (G := [r5.2]) (G' := [r6.2]) (ρ := [1, 2]) (φ := [0]) (ψ := [0]) [some 0] [some 0] zyw_Tape_addNumber zyw_X_feed zye_X_feed (by decide +kernel) (zt_Tape_addNumber hr6) ⟨⟨_, rfl, fun _ => rfl⟩, trivial⟩ ⟨rfl, trivial⟩ rfl rfl rfl rfl rfl rfl rfl) zd32_54 zxt33 rfl (by decide) (by decide) rfl ?_
    refine zv_ald hB zd32_57 rfl rfl rfl ?_
    refine zv_getr hB zd32_58 rfl ?_
    refine zv_getf hB zd32_61 rfl rfl (fun _ _ => ?_)
    have hw := Option.some.inj h
    subst hw
    exact hret _ _ _ _ _ zd32_64 (by trivial) ⟨rfl, rfl, rfl⟩
  · rw [if_pos hc1] at h
    refine zv_con hB zd32_13 rfl ?_
    have hw := Option.some.inj h
    subst hw
    exact hret _ _ _ _ _ zd32_14 (by trivial) ⟨rfl, rfl, rfl⟩
/-! Tape_take (I)Z -/
-- names: 0 Tape('arg', 0)
-- fields: f0 = 0.size_; arrays: ; out: [('ret', None), ('f', 0)]
abbrev zy_Tape_take : zNL := (1, [(0, 3)], [(0, 3, 1, 0)], [], [])
theorem zyw_Tape_take : zv_wf zy_Tape_take = true := by decide +kernel
theorem zye_Tape_take : zv_ek2 zy_Tape_take = true := by decide +kernel
def zf_Tape_take (x1 : Int) (f0 : Int) : Option (Int × Int) := if f0 < x1 then (some (0, f0)) else (some (1, 0))
theorem zd35_0 : decode zxm35.2.1 0 = .ok (.iload_n 1, 1) := by decide +kernel
theorem zd35_1 : decode zxm35.2.1 1 = .ok (.aload_n 0, 1) := by decide +kernel
theorem zd35_2 : decode zxm35.2.1 2 = .ok (.getfield 13, 3) := by decide +kernel
theorem zd35_5 : decode zxm35.2.1 5 = .ok (.if_icmp .le 5, 3) := by decide +kernel
theorem zd35_8 : decode zxm35.2.1 8 = .ok (.iconst 0, 1) := by decide +kernel
theorem zd35_9 : decode zxm35.2.1 9 = .ok (.ireturn, 1) := by decide +kernel
theorem zd35_10 : decode zxm35.2.1 10 = .ok (.aload_n 0, 1) := by decide +kernel
theorem zd35_11 : decode zxm35.2.1 11 = .ok (.iconst 0, 1) := by decide +kernel
theorem zd35_12 : decode zxm35.2.1 12 = .ok (.putfield 13, 3) := by decide +kernel
theorem zd35_15 : decode zxm35.2.1 15 = .ok (.iconst 1, 1) := by decide +kernel
theorem zd35_16 : decode zxm35.2.1 16 = .ok (.ireturn, 1) := by decide +kernel
theorem zt_Tape_take {x1 : Int} {f0 : Int} {o : Int × Int} (h : zf_Tape_take x1 f0 = some o) : zv_Fn z_TB z_cl z_KX zy_Tape_take zxm35 (0, 0) [.inr 0, .inl x1] [.inl f0] [] (some o.1) [.inl o.2] [] := zv_meth (K := (z_KF10, z_KC10, z_KL10, z_KT10, [], [], [], none)) (FT := z_FT) (MT := z_MT) (n := 2) zxp35 (z_ks10 _ (fun _ h => List.mem_cons_of_mem _ h) _ _ _ _ (fun j r h _ => by cases h)) (fun _ _ => zs_KX_p) zyw_Tape_take (fun va F G h => by obtain ⟨rfl, _⟩ := h; rfl) (fun va F G h => by obtain ⟨rfl, _⟩ := h; rfl) rfl fun good va F G hB hret hvret hP => by
  obtain ⟨rfl, rfl, rfl⟩ := hP
  unfold zf_Tape_take at h
  refine zv_ild hB zd35_0 rfl rfl ?_
  refine zv_ald hB zd35_1 rfl rfl rfl ?_
  refine zv_getf hB zd35_2 rfl rfl (fun _ _ => ?_)
  refine zv_cle hB zd35_5 rfl (fun hc1 => ?_) (fun hc1 => ?_)
  · rw [if_neg (Int.not_lt.mpr hc1)] at h
    refine zv_ald hB zd35_10 rfl rfl rfl ?_
    refine zv_con hB zd35_11 rfl ?_
    refine zv_putf hB zd35_12 rfl rfl (fun h => by cases h) rfl ?_
    refine zv_con hB zd35_15 rfl ?_
    have hw := Option.some.inj h
    subst hw
    exact hret _ _ _ _ _ zd35_16 (by constructor <;> decide) ⟨rfl, rfl, rfl⟩
  · rw [if_pos hc1] at h
    refine zv_con hB zd35_8 rfl ?_
    have hw := Option.some.inj h
    subst hw
    exact hret _ _ _ _ _ zd35_9 (by constructor <;> decide) ⟨rfl, rfl, rfl⟩
/-! Math_min (II)I -/
-- names: 
-- fields: ; arrays: ; out: [('ret', None)]
abbrev zy_Math_min : zNL := (0, [], [], [], [])
theorem zyw_Math_min : zv_wf zy_Math_min = true := by decide +kernel
theorem zye_Math_min : zv_ek2 zy_Math_min = true := by decide +kernel
def zf_Math_min (x0 : Int) (x1 : Int) : Option (Int) := if x1 < x0 then (some x1) else (some x0)
theorem zt_Math_min {x0 : Int} {x1 : Int} {o : Int} (h : zf_Math_min x0 x1 = some o) : zv_Fn z_TB z_cl z_KX zy_Math_min zxm37 (0, 0) [.inl x0, .inl x1] [] [] (some o) [] [] := zv_meth (K := (z_KF16, z_KC16, z_KL16, z_KT16, [], [], [], none)) (FT := z_FT) (MT := z_MT) (n := 2) zxp37 (z_ks16 _ (fun _ h => List.mem_cons_of_mem _ h) _ _ _ _ (fun j r h _ => by cases h)) (fun _ _ => zs_KX_p) zyw_Math_min (fun va F G h => by obtain ⟨rfl, _⟩ := h; rfl) (fun va F G h => by obtain ⟨rfl, _⟩ := h; rfl) rfl fun good va F G hB hret hvret hP => by
  obtain ⟨rfl, rfl, rfl⟩ := hP
  unfold zf_Math_min at h
  refine zv_ild hB zd37_0 rfl rfl ?_
  refine zv_ild hB zd37_1 rfl rfl ?_
  refine zv_cgt hB zd37_2 rfl (fun hc1 => ?_) (fun hc1 => ?_)
  · rw [if_pos hc1] at h
    refine zv_ild hB zd37_9 rfl rfl ?_
    have hw := Option.some.inj h
    subst hw
    exact hret _ _ _ _ _ zd37_10 (by trivial) ⟨rfl, rfl, rfl⟩
  · rw [if_neg (Int.not_lt.mpr hc1)] at h
    refine zv_ild hB zd37_5 rfl rfl ?_
    refine zv_goto hB zd37_6 rfl ?_
    have hw := Option.some.inj h
    subst hw
    exact hret _ _ _ _ _ zd37_10 (by trivial) ⟨rfl, rfl, rfl⟩
/-! Law_clear ()V -/
-- names: 0 Law('arg', 0)
-- fields: f0 = 0.steps_, f1 = 0.clauses_, f2 = 0.tellsSeen_, f3 = 0.tellsLines_, f4 = 0.seenByPlace_, f5 = 0.linesByPlace_; arrays: ; out: [('f', 0), ('f', 1), ('f', 2), ('f', 3), ('f', 4), ('f', 5)]
abbrev zy_Law_clear : zNL := (1, [(0, 4)], [(0, 4, 2, 0), (0, 4, 7, 1), (0, 4, 8, 2), (0, 4, 9, 3), (0, 4, 10, 4), (0, 4, 11, 5)], [], [])
theorem zyw_Law_clear : zv_wf zy_Law_clear = true := by decide +kernel
theorem zye_Law_clear : zv_ek2 zy_Law_clear = true := by decide +kernel
def zf_Law_clear (f0 : Int) (f1 : Int) (f2 : Int) (f3 : Int) (f4 : Int) (f5 : Int) : Option (Int × Int × Int × Int × Int × Int) := some (0, 0, 0, 0, 0, 0)
theorem zd38_0 : decode zxm38.2.1 0 = .ok (.aload_n 0, 1) := by decide +kernel
theorem zd38_1 : decode zxm38.2.1 1 = .ok (.iconst 0, 1) := by decide +kernel
theorem zd38_2 : decode zxm38.2.1 2 = .ok (.putfield 16, 3) := by decide +kernel
theorem zd38_5 : decode zxm38.2.1 5 = .ok (.aload_n 0, 1) := by decide +kernel
theorem zd38_6 : decode zxm38.2.1 6 = .ok (.iconst 0, 1) := by decide +kernel
theorem zd38_7 : decode zxm38.2.1 7 = .ok (.putfield 32, 3) := by decide +kernel
theorem zd38_10 : decode zxm38.2.1 10 = .ok (.aload_n 0, 1) := by decide +kernel
theorem zd38_11 : decode zxm38.2.1 11 = .ok (.iconst 0, 1) := by decide +kernel
theorem zd38_12 : decode zxm38.2.1 12 = .ok (.putfield 35, 3) := by decide +kernel
theorem zd38_15 : decode zxm38.2.1 15 = .ok (.aload_n 0, 1) := by decide +kernel
theorem zd38_16 : decode zxm38.2.1 16 = .ok (.iconst 0, 1) := by decide +kernel
theorem zd38_17 : decode zxm38.2.1 17 = .ok (.putfield 39, 3) := by decide +kernel
theorem zd38_20 : decode zxm38.2.1 20 = .ok (.aload_n 0, 1) := by decide +kernel
theorem zd38_21 : decode zxm38.2.1 21 = .ok (.iconst 0, 1) := by decide +kernel
theorem zd38_22 : decode zxm38.2.1 22 = .ok (.putfield 42, 3) := by decide +kernel
theorem zd38_25 : decode zxm38.2.1 25 = .ok (.aload_n 0, 1) := by decide +kernel
theorem zd38_26 : decode zxm38.2.1 26 = .ok (.iconst 0, 1) := by decide +kernel
theorem zd38_27 : decode zxm38.2.1 27 = .ok (.putfield 45, 3) := by decide +kernel
theorem zd38_30 : decode zxm38.2.1 30 = .ok (.return_, 1) := by decide +kernel
theorem zt_Law_clear {f0 : Int} {f1 : Int} {f2 : Int} {f3 : Int} {f4 : Int} {f5 : Int} {o : Int × Int × Int × Int × Int × Int} (h : zf_Law_clear f0 f1 f2 f3 f4 f5 = some o) : zv_Fn z_TB z_cl z_KX zy_Law_clear zxm38 (0, 0) [.inr 0] [.inl f0, .inl f1, .inl f2, .inl f3, .inl f4, .inl f5] [] none [.inl o.1, .inl o.2.1, .inl o.2.2.1, .inl o.2.2.2.1, .inl o.2.2.2.2.1, .inl o.2.2.2.2.2] [] := zv_meth (K := (z_KF2, z_KC2, z_KL2, z_KT2, [], [], [], none)) (FT := z_FT) (MT := z_MT) (n := 1) zxp38 (z_ks2 _ (fun _ h => List.mem_cons_of_mem _ h) _ _ _ _ (fun j r h _ => by cases h)) (fun _ _ => zs_KX_p) zyw_Law_clear (fun va F G h => by obtain ⟨rfl, _⟩ := h; rfl) (fun va F G h => by obtain ⟨rfl, _⟩ := h; rfl) rfl fun good va F G hB hret hvret hP => by
  obtain ⟨rfl, rfl, rfl⟩ := hP
  unfold zf_Law_clear at h
  refine zv_ald hB zd38_0 rfl rfl rfl ?_
  refine zv_con hB zd38_1 rfl ?_
  refine zv_putf hB zd38_2 rfl rfl (fun h => by cases h) rfl ?_
  refine zv_ald hB zd38_5 rfl rfl rfl ?_
  refine zv_con hB zd38_6 rfl ?_
  refine zv_putf hB zd38_7 rfl rfl (fun h => by cases h) rfl ?_
  refine zv_ald hB zd38_10 rfl rfl rfl ?_
  refine zv_con hB zd38_11 rfl ?_
  refine zv_putf hB zd38_12 rfl rfl (fun _ => by decide) rfl ?_
  refine zv_ald hB zd38_15 rfl rfl rfl ?_
  refine zv_con hB zd38_16 rfl ?_
  refine zv_putf hB zd38_17 rfl rfl (fun _ => by decide) rfl ?_
  refine zv_ald hB zd38_20 rfl rfl rfl ?_
  refine zv_con hB zd38_21 rfl ?_
  refine zv_putf hB zd38_22 rfl rfl (fun _ => by decide) rfl ?_
  refine zv_ald hB zd38_25 rfl rfl rfl ?_
  refine zv_con hB zd38_26 rfl ?_
  refine zv_putf hB zd38_27 rfl rfl (fun _ => by decide) rfl ?_
  have hw := Option.some.inj h
  subst hw
  exact hvret _ _ _ _ zd38_30 trivial ⟨rfl, rfl, rfl⟩
/-! LawReader_peek ()I -/
-- names: 0 LawReader('arg', 0), 1 (0, 220)(0, 5, 0)
-- fields: f0 = 0.at_, f1 = 0.length_; arrays: g0 = 1; out: [('ret', None)]
abbrev zy_LawReader_peek : zNL := (2, [(0, 5)], [(0, 5, 2, 0), (0, 5, 1, 1)], [(0, 5, 0, 1)], [(1, 0, 220, 0)])
theorem zyw_LawReader_peek : zv_wf zy_LawReader_peek = true := by decide +kernel
theorem zye_LawReader_peek : zv_ek2 zy_LawReader_peek = true := by decide +kernel
def zf_LawReader_peek (f0 : Int) (f1 : Int) (g0 : (Int → Int)) : Option (Int) := if f0 < 0 then (some (-1)) else (if f0 < f1 then (cond (zi_ix f0 220) (some (g0 f0)) none) else (some (-1)))
theorem zd40_0 : decode zxm40.2.1 0 = .ok (.aload_n 0, 1) := by decide +kernel
theorem zd40_1 : decode zxm40.2.1 1 = .ok (.getfield 15, 3) := by decide +kernel
theorem zd40_4 : decode zxm40.2.1 4 = .ok (.ifCond .lt 26, 3) := by decide +kernel
theorem zd40_7 : decode zxm40.2.1 7 = .ok (.aload_n 0, 1) := by decide +kernel
theorem zd40_8 : decode zxm40.2.1 8 = .ok (.getfield 15, 3) := by decide +kernel
theorem zd40_11 : decode zxm40.2.1 11 = .ok (.aload_n 0, 1) := by decide +kernel
theorem zd40_12 : decode zxm40.2.1 12 = .ok (.getfield 9, 3) := by decide +kernel
theorem zd40_15 : decode zxm40.2.1 15 = .ok (.if_icmp .ge 15, 3) := by decide +kernel
theorem zd40_18 : decode zxm40.2.1 18 = .ok (.aload_n 0, 1) := by decide +kernel
theorem zd40_19 : decode zxm40.2.1 19 = .ok (.getfield 21, 3) := by decide +kernel
theorem zd40_22 : decode zxm40.2.1 22 = .ok (.aload_n 0, 1) := by decide +kernel
theorem zd40_23 : decode zxm40.2.1 23 = .ok (.getfield 15, 3) := by decide +kernel
theorem zd40_26 : decode zxm40.2.1 26 = .ok (.iaload, 1) := by decide +kernel
theorem zd40_27 : decode zxm40.2.1 27 = .ok (.goto 4, 3) := by decide +kernel
theorem zd40_30 : decode zxm40.2.1 30 = .ok (.iconst (-1), 1) := by decide +kernel
theorem zd40_31 : decode zxm40.2.1 31 = .ok (.ireturn, 1) := by decide +kernel
theorem zt_LawReader_peek {f0 : Int} {f1 : Int} {g0 : (Int → Int)} {o : Int} (h : zf_LawReader_peek f0 f1 g0 = some o) : zv_Fn z_TB z_cl z_KX zy_LawReader_peek zxm40 (0, 0) [.inr 0] [.inl f0, .inl f1] [g0] (some o) [.inl f0, .inl f1] [g0] := zv_meth (K := (z_KF3, z_KC3, z_KL3, z_KT3, [], [], [], none)) (FT := z_FT) (MT := z_MT) (n := 1) zxp40 (z_ks3 _ (fun _ h => List.mem_cons_of_mem _ h) _ _ _ _ (fun j r h _ => by cases h)) (fun _ _ => zs_KX_p) zyw_LawReader_peek (fun va F G h => by obtain ⟨rfl, _⟩ := h; rfl) (fun va F G h => by obtain ⟨rfl, _⟩ := h; rfl) rfl fun good va F G hB hret hvret hP => by
  obtain ⟨rfl, rfl, rfl⟩ := hP
  unfold zf_LawReader_peek at h
  refine zv_ald hB zd40_0 rfl rfl rfl ?_
  refine zv_getf hB zd40_1 rfl rfl (fun _ _ => ?_)
  refine zv_zlt hB zd40_4 rfl (fun hc1 => ?_) (fun hc1 => ?_)
  · rw [if_pos hc1] at h
    refine zv_con hB zd40_30 rfl ?_
    have hw := Option.some.inj h
    subst hw
    exact hret _ _ _ _ _ zd40_31 (by trivial) ⟨rfl, rfl, rfl⟩
  · rw [if_neg (Int.not_lt.mpr hc1)] at h
    refine zv_ald hB zd40_7 rfl rfl rfl ?_
    refine zv_getf hB zd40_8 rfl rfl (fun _ _ => ?_)
    refine zv_ald hB zd40_11 rfl rfl rfl ?_
    refine zv_getf hB zd40_12 rfl rfl (fun _ _ => ?_)
    refine zv_cge hB zd40_15 rfl (fun hc2 => ?_) (fun hc2 => ?_)
    · rw [if_neg (Int.not_lt.mpr hc2)] at h
      refine zv_con hB zd40_30 rfl ?_
      have hw := Option.some.inj h
      subst hw
      exact hret _ _ _ _ _ zd40_31 (by trivial) ⟨rfl, rfl, rfl⟩
    · rw [if_pos hc2] at h
      refine zv_ald hB zd40_18 rfl rfl rfl ?_
      refine zv_getr hB zd40_19 rfl ?_
      refine zv_ald hB zd40_22 rfl rfl rfl ?_
      refine zv_getf hB zd40_23 rfl rfl (fun _ _ => ?_)
      obtain ⟨c3, h⟩ := zi_if h
      refine zv_iald hB zd40_26 rfl rfl (zi_ix_ok c3).1 (zi_ix_ok c3).2 (fun _ _ => ?_)
      refine zv_goto hB zd40_27 rfl ?_
      have hw := Option.some.inj h
      subst hw
      exact hret _ _ _ _ _ zd40_31 (by trivial) ⟨rfl, rfl, rfl⟩
/-! Law_addStep (II)I -/
-- names: 0 Law('arg', 0), 1 (0, 200)(0, 4, 0), 2 (0, 200)(0, 4, 1)
-- fields: f0 = 0.steps_; arrays: g0 = 1, g1 = 2; out: [('ret', None), ('f', 0), ('g', 0), ('g', 1)]
abbrev zy_Law_addStep : zNL := (3, [(0, 4)], [(0, 4, 2, 0)], [(0, 4, 0, 1), (0, 4, 1, 2)], [(1, 0, 200, 0), (2, 0, 200, 1)])
theorem zyw_Law_addStep : zv_wf zy_Law_addStep = true := by decide +kernel
theorem zye_Law_addStep : zv_ek2 zy_Law_addStep = true := by decide +kernel
def zf_Law_addStep (x1 : Int) (x2 : Int) (f0 : Int) (g0 : (Int → Int)) (g1 : (Int → Int)) : Option (Int × Int × (Int → Int) × (Int → Int)) := if f0 < 200 then (cond (zi_ix f0 200) (some ((zi_w ((zi_w (f0 + 1)) - 1)), (zi_w (f0 + 1)), (zv_up g0 f0 x1), (zv_up g1 f0 x2))) none) else (some ((zi_w (f0 - 1)), f0, g0, g1))
theorem zd49_0 : decode zxm49.2.1 0 = .ok (.aload_n 0, 1) := by decide +kernel
theorem zd49_1 : decode zxm49.2.1 1 = .ok (.getfield 16, 3) := by decide +kernel
theorem zd49_4 : decode zxm49.2.1 4 = .ok (.sipush 200, 3) := by decide +kernel
theorem zd49_7 : decode zxm49.2.1 7 = .ok (.if_icmp .ge 33, 3) := by decide +kernel
theorem zd49_10 : decode zxm49.2.1 10 = .ok (.aload_n 0, 1) := by decide +kernel
theorem zd49_11 : decode zxm49.2.1 11 = .ok (.getfield 9, 3) := by decide +kernel
theorem zd49_14 : decode zxm49.2.1 14 = .ok (.aload_n 0, 1) := by decide +kernel
theorem zd49_15 : decode zxm49.2.1 15 = .ok (.getfield 16, 3) := by decide +kernel
theorem zd49_18 : decode zxm49.2.1 18 = .ok (.iload_n 1, 1) := by decide +kernel
theorem zd49_19 : decode zxm49.2.1 19 = .ok (.iastore, 1) := by decide +kernel
theorem zd49_20 : decode zxm49.2.1 20 = .ok (.aload_n 0, 1) := by decide +kernel
theorem zd49_21 : decode zxm49.2.1 21 = .ok (.getfield 13, 3) := by decide +kernel
theorem zd49_24 : decode zxm49.2.1 24 = .ok (.aload_n 0, 1) := by decide +kernel
theorem zd49_25 : decode zxm49.2.1 25 = .ok (.getfield 16, 3) := by decide +kernel
theorem zd49_28 : decode zxm49.2.1 28 = .ok (.iload_n 2, 1) := by decide +kernel
theorem zd49_29 : decode zxm49.2.1 29 = .ok (.iastore, 1) := by decide +kernel
theorem zd49_30 : decode zxm49.2.1 30 = .ok (.aload_n 0, 1) := by decide +kernel
theorem zd49_31 : decode zxm49.2.1 31 = .ok (.dup, 1) := by decide +kernel
theorem zd49_32 : decode zxm49.2.1 32 = .ok (.getfield 16, 3) := by decide +kernel
theorem zd49_35 : decode zxm49.2.1 35 = .ok (.iconst 1, 1) := by decide +kernel
theorem zd49_36 : decode zxm49.2.1 36 = .ok (.iadd, 1) := by decide +kernel
theorem zd49_37 : decode zxm49.2.1 37 = .ok (.putfield 16, 3) := by decide +kernel
theorem zd49_40 : decode zxm49.2.1 40 = .ok (.aload_n 0, 1) := by decide +kernel
theorem zd49_41 : decode zxm49.2.1 41 = .ok (.getfield 16, 3) := by decide +kernel
theorem zd49_44 : decode zxm49.2.1 44 = .ok (.iconst 1, 1) := by decide +kernel
theorem zd49_45 : decode zxm49.2.1 45 = .ok (.isub, 1) := by decide +kernel
theorem zd49_46 : decode zxm49.2.1 46 = .ok (.ireturn, 1) := by decide +kernel
theorem zt_Law_addStep {x1 : Int} {x2 : Int} {f0 : Int} {g0 : (Int → Int)} {g1 : (Int → Int)} {o : Int × Int × (Int → Int) × (Int → Int)} (h : zf_Law_addStep x1 x2 f0 g0 g1 = some o) : zv_Fn z_TB z_cl z_KX zy_Law_addStep zxm49 (0, 0) [.inr 0, .inl x1, .inl x2] [.inl f0] [g0, g1] (some o.1) [.inl o.2.1] [o.2.2.1, o.2.2.2] := zv_meth (K := (z_KF2, z_KC2, z_KL2, z_KT2, [], [], [], none)) (FT := z_FT) (MT := z_MT) (n := 3) zxp49 (z_ks2 _ (fun _ h => List.mem_cons_of_mem _ h) _ _ _ _ (fun j r h _ => by cases h)) (fun _ _ => zs_KX_p) zyw_Law_addStep (fun va F G h => by obtain ⟨rfl, _⟩ := h; rfl) (fun va F G h => by obtain ⟨rfl, _⟩ := h; rfl) rfl fun good va F G hB hret hvret hP => by
  obtain ⟨rfl, rfl, rfl⟩ := hP
  unfold zf_Law_addStep at h
  refine zv_ald hB zd49_0 rfl rfl rfl ?_
  refine zv_getf hB zd49_1 rfl rfl (fun _ _ => ?_)
  refine zv_con hB zd49_4 rfl ?_
  refine zv_cge hB zd49_7 rfl (fun hc1 => ?_) (fun hc1 => ?_)
  · rw [if_neg (Int.not_lt.mpr hc1)] at h
    refine zv_ald hB zd49_40 rfl rfl rfl ?_
    refine zv_getf hB zd49_41 rfl rfl (fun _ _ => ?_)
    refine zv_con hB zd49_44 rfl ?_
    refine zv_subw hB zd49_45 ?_
    have hw := Option.some.inj h
    subst hw
    exact hret _ _ _ _ _ zd49_46 (by trivial) ⟨rfl, rfl, rfl⟩
  · rw [if_pos hc1] at h
    refine zv_ald hB zd49_10 rfl rfl rfl ?_
    refine zv_getr hB zd49_11 rfl ?_
    refine zv_ald hB zd49_14 rfl rfl rfl ?_
    refine zv_getf hB zd49_15 rfl rfl (fun _ _ => ?_)
    refine zv_ild hB zd49_18 rfl rfl ?_
    obtain ⟨c2, h⟩ := zi_if h
    refine zv_iast hB zd49_19 rfl rfl (zi_ix_ok c2).1 (zi_ix_ok c2).2 ?_
    refine zv_ald hB zd49_20 rfl rfl rfl ?_
    refine zv_getr hB zd49_21 rfl ?_
    refine zv_ald hB zd49_24 rfl rfl rfl ?_
    refine zv_getf hB zd49_25 rfl rfl (fun _ _ => ?_)
    refine zv_ild hB zd49_28 rfl rfl ?_
    refine zv_iast hB zd49_29 rfl rfl (zi_ix_ok c2).1 (zi_ix_ok c2).2 ?_
    refine zv_ald hB zd49_30 rfl rfl rfl ?_
    refine zv_dup hB zd49_31 rfl ?_
    refine zv_getf hB zd49_32 rfl rfl (fun _ _ => ?_)
    refine zv_con hB zd49_35 rfl ?_
    refine zv_addw hB zd49_36 ?_
    refine zv_putf hB zd49_37 rfl rfl (fun h => by cases h) rfl ?_
    refine zv_ald hB zd49_40 rfl rfl rfl ?_
    refine zv_getf hB zd49_41 rfl rfl (fun _ _ => ?_)
    refine zv_con hB zd49_44 rfl ?_
    refine zv_subw hB zd49_45 ?_
    have hw := Option.some.inj h
    subst hw
    exact hret _ _ _ _ _ zd49_46 (by trivial) ⟨rfl, rfl, rfl⟩
/-! LawReader_isDigit (I)Z -/
-- names: 
-- fields: ; arrays: ; out: [('ret', None)]
abbrev zy_LawReader_isDigit : zNL := (0, [], [], [], [])
theorem zyw_LawReader_isDigit : zv_wf zy_LawReader_isDigit = true := by decide +kernel
theorem zye_LawReader_isDigit : zv_ek2 zy_LawReader_isDigit = true := by decide +kernel
def zf_LawReader_isDigit (x0 : Int) : Option (Int) := if x0 < 48 then (some 0) else (if 57 < x0 then (some 0) else (some 1))
theorem zd47_0 : decode zxm47.2.1 0 = .ok (.iload_n 0, 1) := by decide +kernel
theorem zd47_1 : decode zxm47.2.1 1 = .ok (.bipush 48, 2) := by decide +kernel
theorem zd47_3 : decode zxm47.2.1 3 = .ok (.if_icmp .lt 13, 3) := by decide +kernel
theorem zd47_6 : decode zxm47.2.1 6 = .ok (.iload_n 0, 1) := by decide +kernel
theorem zd47_7 : decode zxm47.2.1 7 = .ok (.bipush 57, 2) := by decide +kernel
theorem zd47_9 : decode zxm47.2.1 9 = .ok (.if_icmp .gt 7, 3) := by decide +kernel
theorem zd47_12 : decode zxm47.2.1 12 = .ok (.iconst 1, 1) := by decide +kernel
theorem zd47_13 : decode zxm47.2.1 13 = .ok (.goto 4, 3) := by decide +kernel
theorem zd47_16 : decode zxm47.2.1 16 = .ok (.iconst 0, 1) := by decide +kernel
theorem zd47_17 : decode zxm47.2.1 17 = .ok (.ireturn, 1) := by decide +kernel
theorem zt_LawReader_isDigit {x0 : Int} {o : Int} (h : zf_LawReader_isDigit x0 = some o) : zv_Fn z_TB z_cl z_KX zy_LawReader_isDigit zxm47 (0, 0) [.inl x0] [] [] (some o) [] [] := zv_meth (K := (z_KF3, z_KC3, z_KL3, z_KT3, [], [], [], none)) (FT := z_FT) (MT := z_MT) (n := 1) zxp47 (z_ks3 _ (fun _ h => List.mem_cons_of_mem _ h) _ _ _ _ (fun j r h _ => by cases h)) (fun _ _ => zs_KX_p) zyw_LawReader_isDigit (fun va F G h => by obtain ⟨rfl, _⟩ := h; rfl) (fun va F G h => by obtain ⟨rfl, _⟩ := h; rfl) rfl fun good va F G hB hret hvret hP => by
  obtain ⟨rfl, rfl, rfl⟩ := hP
  unfold zf_LawReader_isDigit at h
  refine zv_ild hB zd47_0 rfl rfl ?_
  refine zv_con hB zd47_1 rfl ?_
  refine zv_clt hB zd47_3 rfl (fun hc1 => ?_) (fun hc1 => ?_)
  · rw [if_pos hc1] at h
    refine zv_con hB zd47_16 rfl ?_
    have hw := Option.some.inj h
    subst hw
    exact hret _ _ _ _ _ zd47_17 (by constructor <;> decide) ⟨rfl, rfl, rfl⟩
  · rw [if_neg (Int.not_lt.mpr hc1)] at h
    refine zv_ild hB zd47_6 rfl rfl ?_
    refine zv_con hB zd47_7 rfl ?_
    refine zv_cgt hB zd47_9 rfl (fun hc2 => ?_) (fun hc2 => ?_)
    · rw [if_pos hc2] at h
      refine zv_con hB zd47_16 rfl ?_
      have hw := Option.some.inj h
      subst hw
      exact hret _ _ _ _ _ zd47_17 (by constructor <;> decide) ⟨rfl, rfl, rfl⟩
    · rw [if_neg (Int.not_lt.mpr hc2)] at h
      refine zv_con hB zd47_12 rfl ?_
      refine zv_goto hB zd47_13 rfl ?_
      have hw := Option.some.inj h
      subst hw
      exact hret _ _ _ _ _ zd47_17 (by constructor <;> decide) ⟨rfl, rfl, rfl⟩
/-! X_faultAt (II)I -/
-- names: 
-- fields: ; arrays: ; out: [('ret', None)]
abbrev zy_X_faultAt : zNL := (0, [], [], [], [])
theorem zyw_X_faultAt : zv_wf zy_X_faultAt = true := by decide +kernel
theorem zye_X_faultAt : zv_ek2 zy_X_faultAt = true := by decide +kernel
def zf_X_faultAt (x0 : Int) (x1 : Int) : Option (Int) := some (zi_w ((zi_w ((-1000) * x0)) - x1))
theorem zd42_0 : decode zxm42.2.1 0 = .ok (.sipush (-1000), 3) := by decide +kernel
theorem zd42_3 : decode zxm42.2.1 3 = .ok (.iload_n 0, 1) := by decide +kernel
theorem zd42_4 : decode zxm42.2.1 4 = .ok (.imul, 1) := by decide +kernel
theorem zd42_5 : decode zxm42.2.1 5 = .ok (.iload_n 1, 1) := by decide +kernel
theorem zd42_6 : decode zxm42.2.1 6 = .ok (.isub, 1) := by decide +kernel
theorem zd42_7 : decode zxm42.2.1 7 = .ok (.ireturn, 1) := by decide +kernel
theorem zt_X_faultAt {x0 : Int} {x1 : Int} {o : Int} (h : zf_X_faultAt x0 x1 = some o) : zv_Fn z_TB z_cl z_KX zy_X_faultAt zxm42 (0, 0) [.inl x0, .inl x1] [] [] (some o) [] [] := zv_meth (K := (z_KF0, z_KC0, z_KL0, z_KT0, [], [], [], none)) (FT := z_FT) (MT := z_MT) (n := 2) zxp42 (z_ks0 _ (fun _ h => List.mem_cons_of_mem _ h) _ _ _ _ (fun j r h _ => by cases h)) (fun _ _ => zs_KX_p) zyw_X_faultAt (fun va F G h => by obtain ⟨rfl, _⟩ := h; rfl) (fun va F G h => by obtain ⟨rfl, _⟩ := h; rfl) rfl fun good va F G hB hret hvret hP => by
  obtain ⟨rfl, rfl, rfl⟩ := hP
  unfold zf_X_faultAt at h
  refine zv_con hB zd42_0 rfl ?_
  refine zv_ild hB zd42_3 rfl rfl ?_
  refine zv_mulw hB zd42_4 ?_
  refine zv_ild hB zd42_5 rfl rfl ?_
  refine zv_subw hB zd42_6 ?_
  have hw := Option.some.inj h
  subst hw
  exact hret _ _ _ _ _ zd42_7 (by trivial) ⟨rfl, rfl, rfl⟩
/-! LawReader_fail (I)V -/
-- names: 0 LawReader('arg', 0)
-- fields: f0 = 0.fault_, f1 = 0.at_; arrays: ; out: [('f', 0)]
abbrev zy_LawReader_fail : zNL := (1, [(0, 5)], [(0, 5, 3, 0), (0, 5, 2, 1)], [], [])
theorem zyw_LawReader_fail : zv_wf zy_LawReader_fail = true := by decide +kernel
theorem zye_LawReader_fail : zv_ek2 zy_LawReader_fail = true := by decide +kernel
def zf_LawReader_fail (x1 : Int) (f0 : Int) (f1 : Int) : Option (Int) := if f0 = 0 then ((zf_X_faultAt x1 f1).bind fun r2 => (some r2)) else (some f0)
theorem zd41_0 : decode zxm41.2.1 0 = .ok (.aload_n 0, 1) := by decide +kernel
theorem zd41_1 : decode zxm41.2.1 1 = .ok (.getfield 18, 3) := by decide +kernel
theorem zd41_4 : decode zxm41.2.1 4 = .ok (.ifCond .ne 15, 3) := by decide +kernel
theorem zd41_7 : decode zxm41.2.1 7 = .ok (.aload_n 0, 1) := by decide +kernel
theorem zd41_8 : decode zxm41.2.1 8 = .ok (.iload_n 1, 1) := by decide +kernel
theorem zd41_9 : decode zxm41.2.1 9 = .ok (.aload_n 0, 1) := by decide +kernel
theorem zd41_10 : decode zxm41.2.1 10 = .ok (.getfield 15, 3) := by decide +kernel
theorem zd41_13 : decode zxm41.2.1 13 = .ok (.invokestatic 50, 3) := by decide +kernel
theorem zd41_16 : decode zxm41.2.1 16 = .ok (.putfield 18, 3) := by decide +kernel
theorem zd41_19 : decode zxm41.2.1 19 = .ok (.return_, 1) := by decide +kernel
theorem zt_LawReader_fail {x1 : Int} {f0 : Int} {f1 : Int} {o : Int} (h : zf_LawReader_fail x1 f0 f1 = some o) : zv_Fn z_TB z_cl z_KX zy_LawReader_fail zxm41 (1, 60) [.inr 0, .inl x1] [.inl f0, .inl f1] [] none [.inl o, .inl f1] [] := zv_meth (K := (z_KF3, z_KC3, z_KL3, z_KT3, [], [], [], none)) (FT := z_FT) (MT := z_MT) (n := 2) zxp41 (z_ks3 _ (fun _ h => List.mem_cons_of_mem _ h) _ _ _ _ (fun j r h _ => by cases h)) (fun _ _ => zs_KX_p) zyw_LawReader_fail (fun va F G h => by obtain ⟨rfl, _⟩ := h; rfl) (fun va F G h => by obtain ⟨rfl, _⟩ := h; rfl) rfl fun good va F G hB hret hvret hP => by
  obtain ⟨rfl, rfl, rfl⟩ := hP
  unfold zf_LawReader_fail at h
  refine zv_ald hB zd41_0 rfl rfl rfl ?_
  refine zv_getf hB zd41_1 rfl rfl (fun _ _ => ?_)
  refine zv_zne hB zd41_4 rfl (fun hc1 => ?_) (fun hc1 => ?_)
  · rw [if_neg hc1] at h
    have hw := Option.some.inj h
    subst hw
    exact hvret _ _ _ _ zd41_19 trivial ⟨rfl, rfl, rfl⟩
  · rw [if_pos hc1] at h
    refine zv_ald hB zd41_7 rfl rfl rfl ?_
    refine zv_ild hB zd41_8 rfl rfl ?_
    refine zv_ald hB zd41_9 rfl rfl rfl ?_
    refine zv_getf hB zd41_10 rfl rfl (fun _ _ => ?_)
    obtain ⟨r2, hr2, h⟩ := zi_bind h
    refine zv_cs hB (zv_emq (va2 := [.inl x1, .inl f1]) (F := [.inl f0, .inl f1]) (F' := [.inl f0, .inl f1]) (G := []) (G' := []) (ρ := []) (φ := []) (ψ := []) [none, none] [] zyw_X_faultAt zyw_LawReader_fail zye_LawReader_fail (by decide +kernel) (zt_X_faultAt hr2) trivial trivial rfl rfl rfl rfl rfl rfl rfl) zd41_13 zxt42 rfl (by decide) (by decide) rfl ?_
    refine zv_putf hB zd41_16 rfl rfl (fun h => by cases h) rfl ?_
    have hw := Option.some.inj h
    subst hw
    exact hvret _ _ _ _ zd41_19 trivial ⟨rfl, rfl, rfl⟩
/-! LawReader_readNumber ()V -/
-- names: 0 LawReader('arg', 0), 1 (0, 220)(0, 5, 0), 2 Law(0, 5, 4), 3 (0, 200)(2, 4, 0), 4 (0, 200)(2, 4, 1)
-- fields: f0 = 0.at_, f1 = 0.length_, f2 = 0.law_, f3 = 2.steps_, f4 = 0.fault_; arrays: g0 = 1, g1 = 3, g2 = 4; out: [('f', 0), ('f', 3), ('f', 4), ('g', 1), ('g', 2)]
abbrev zy_LawReader_readNumber : zNL := (5, [(0, 5), (2, 4)], [(0, 5, 2, 0), (0, 5, 1, 1), (0, 5, 4, 2), (2, 4, 2, 3), (0, 5, 3, 4)], [(0, 5, 0, 1), (2, 4, 0, 3), (2, 4, 1, 4)], [(1, 0, 220, 0), (3, 0, 200, 1), (4, 0, 200, 2)])
theorem zyw_LawReader_readNumber : zv_wf zy_LawReader_readNumber = true := by decide +kernel
theorem zye_LawReader_readNumber : zv_ek2 zy_LawReader_readNumber = true := by decide +kernel
def zf_LawReader_readNumber_l0_b (f1 : Int) (g0 : (Int → Int)) (rec : Int → Int → Int → Option (Int × Int)) (x1 : Int) (x2 : Int) (f0 : Int) : Option (Int × Int) := if x2 < 5 then ((zf_LawReader_peek f0 f1 g0).bind fun r2 => ((zf_LawReader_isDigit r2).bind fun r3 => (if r3 = 0 then (some (x1, f0)) else ((zf_LawReader_peek f0 f1 g0).bind fun r5 => (rec (zi_w ((zi_w ((zi_w (10 * x1)) + r5)) - 48)) (zi_w (x2 + 1)) (zi_w (f0 + 1))))))) else (some (x1, f0))
def zf_LawReader_readNumber_l0 (f1 : Int) (g0 : (Int → Int)) : Nat → Int → Int → Int → Option (Int × Int)
  | 0, _, _, _ => none
  | n + 1, x1, x2, f0 => zf_LawReader_readNumber_l0_b f1 g0 (zf_LawReader_readNumber_l0 f1 g0 n) x1 x2 f0
def zf_LawReader_readNumber (f0 : Int) (f1 : Int) (f3 : Int) (f4 : Int) (g0 : (Int → Int)) (g1 : (Int → Int)) (g2 : (Int → Int)) : Option (Int × Int × Int × (Int → Int) × (Int → Int)) := (zf_LawReader_readNumber_l0 f1 g0 zi_fu 0 0 f0).bind fun q6 => ((zf_LawReader_peek q6.2 f1 g0).bind fun r7 => ((zf_LawReader_isDigit r7).bind fun r8 => (if r8 = 0 then ((zf_Law_addStep 0 q6.1 f3 g1 g2).bind fun r10 => (some (q6.2, r10.2.1, f4, r10.2.2.1, r10.2.2.2))) else ((zf_LawReader_fail 2 f4 q6.2).bind fun r11 => ((zf_Law_addStep 0 q6.1 f3 g1 g2).bind fun r12 => (some (q6.2, r12.2.1, r11, r12.2.2.1, r12.2.2.2)))))))
theorem zd48_0 : decode zxm48.2.1 0 = .ok (.iconst 0, 1) := by decide +kernel
theorem zd48_1 : decode zxm48.2.1 1 = .ok (.istore_n 1, 1) := by decide +kernel
theorem zd48_2 : decode zxm48.2.1 2 = .ok (.iconst 0, 1) := by decide +kernel
theorem zd48_3 : decode zxm48.2.1 3 = .ok (.istore_n 2, 1) := by decide +kernel
theorem zd48_4 : decode zxm48.2.1 4 = .ok (.iload_n 2, 1) := by decide +kernel
theorem zd48_5 : decode zxm48.2.1 5 = .ok (.iconst 5, 1) := by decide +kernel
theorem zd48_6 : decode zxm48.2.1 6 = .ok (.if_icmp .ge 42, 3) := by decide +kernel
theorem zd48_9 : decode zxm48.2.1 9 = .ok (.aload_n 0, 1) := by decide +kernel
theorem zd48_10 : decode zxm48.2.1 10 = .ok (.invokevirtual 53, 3) := by decide +kernel
theorem zd48_13 : decode zxm48.2.1 13 = .ok (.invokestatic 94, 3) := by decide +kernel
theorem zd48_16 : decode zxm48.2.1 16 = .ok (.ifCond .eq 32, 3) := by decide +kernel
theorem zd48_19 : decode zxm48.2.1 19 = .ok (.bipush 10, 2) := by decide +kernel
theorem zd48_21 : decode zxm48.2.1 21 = .ok (.iload_n 1, 1) := by decide +kernel
theorem zd48_22 : decode zxm48.2.1 22 = .ok (.imul, 1) := by decide +kernel
theorem zd48_23 : decode zxm48.2.1 23 = .ok (.aload_n 0, 1) := by decide +kernel
theorem zd48_24 : decode zxm48.2.1 24 = .ok (.invokevirtual 53, 3) := by decide +kernel
theorem zd48_27 : decode zxm48.2.1 27 = .ok (.iadd, 1) := by decide +kernel
theorem zd48_28 : decode zxm48.2.1 28 = .ok (.bipush 48, 2) := by decide +kernel
theorem zd48_30 : decode zxm48.2.1 30 = .ok (.isub, 1) := by decide +kernel
theorem zd48_31 : decode zxm48.2.1 31 = .ok (.istore_n 1, 1) := by decide +kernel
theorem zd48_32 : decode zxm48.2.1 32 = .ok (.aload_n 0, 1) := by decide +kernel
theorem zd48_33 : decode zxm48.2.1 33 = .ok (.dup, 1) := by decide +kernel
theorem zd48_34 : decode zxm48.2.1 34 = .ok (.getfield 15, 3) := by decide +kernel
theorem zd48_37 : decode zxm48.2.1 37 = .ok (.iconst 1, 1) := by decide +kernel
theorem zd48_38 : decode zxm48.2.1 38 = .ok (.iadd, 1) := by decide +kernel
theorem zd48_39 : decode zxm48.2.1 39 = .ok (.putfield 15, 3) := by decide +kernel
theorem zd48_42 : decode zxm48.2.1 42 = .ok (.iinc 2 1, 3) := by decide +kernel
theorem zd48_45 : decode zxm48.2.1 45 = .ok (.goto (-41), 3) := by decide +kernel
theorem zd48_48 : decode zxm48.2.1 48 = .ok (.aload_n 0, 1) := by decide +kernel
theorem zd48_49 : decode zxm48.2.1 49 = .ok (.invokevirtual 53, 3) := by decide +kernel
theorem zd48_52 : decode zxm48.2.1 52 = .ok (.invokestatic 94, 3) := by decide +kernel
theorem zd48_55 : decode zxm48.2.1 55 = .ok (.ifCond .eq 8, 3) := by decide +kernel
theorem zd48_58 : decode zxm48.2.1 58 = .ok (.aload_n 0, 1) := by decide +kernel
theorem zd48_59 : decode zxm48.2.1 59 = .ok (.iconst 2, 1) := by decide +kernel
theorem zd48_60 : decode zxm48.2.1 60 = .ok (.invokevirtual 57, 3) := by decide +kernel
theorem zd48_63 : decode zxm48.2.1 63 = .ok (.aload_n 0, 1) := by decide +kernel
theorem zd48_64 : decode zxm48.2.1 64 = .ok (.getfield 25, 3) := by decide +kernel
theorem zd48_67 : decode zxm48.2.1 67 = .ok (.iconst 0, 1) := by decide +kernel
theorem zd48_68 : decode zxm48.2.1 68 = .ok (.iload_n 1, 1) := by decide +kernel
theorem zd48_69 : decode zxm48.2.1 69 = .ok (.invokevirtual 76, 3) := by decide +kernel
theorem zd48_72 : decode zxm48.2.1 72 = .ok (.pop, 1) := by decide +kernel
theorem zd48_73 : decode zxm48.2.1 73 = .ok (.return_, 1) := by decide +kernel
theorem zt_LawReader_readNumber {f0 : Int} {f1 : Int} {f3 : Int} {f4 : Int} {g0 : (Int → Int)} {g1 : (Int → Int)} {g2 : (Int → Int)} {o : Int × Int × Int × (Int → Int) × (Int → Int)} (h : zf_LawReader_readNumber f0 f1 f3 f4 g0 g1 g2 = some o) : zv_Fn z_TB z_cl z_KX zy_LawReader_readNumber zxm48 (2, 120) [.inr 0] [.inl f0, .inl f1, .inr 2, .inl f3, .inl f4] [g0, g1, g2] none [.inl o.1, .inl f1, .inr 2, .inl o.2.1, .inl o.2.2.1] [g0, o.2.2.2.1, o.2.2.2.2] := zv_meth (K := (z_KF3, z_KC3, z_KL3, z_KT3, [], [], [], none)) (FT := z_FT) (MT := z_MT) (n := 1) zxp48 (z_ks3 _ (fun _ h => List.mem_cons_of_mem _ h) _ _ _ _ (fun j r h _ => by cases h)) (fun _ _ => zs_KX_p) zyw_LawReader_readNumber (fun va F G h => by obtain ⟨rfl, _⟩ := h; rfl) (fun va F G h => by obtain ⟨rfl, _⟩ := h; rfl) rfl fun good va F G hB hret hvret hP => by
  obtain ⟨rfl, rfl, rfl⟩ := hP
  have l0 : ∀ (n : Nat) (x1 : Int) (x2 : Int) (f0 : Int) (f3 : Int) (f4 : Int) (g1 : (Int → Int)) (g2 : (Int → Int)) (q : Int × Int), zf_LawReader_readNumber_l0 f1 g0 n x1 x2 f0 = some q → (good 48 [.inr 0, .inl q.1, .inr 1000] [] [.inl q.2, .inl f1, .inr 2, .inl f3, .inl f4] [g0, g1, g2]) → good 4 [.inr 0, .inl x1, .inl x2] [] [.inl f0, .inl f1, .inr 2, .inl f3, .inl f4] [g0, g1, g2] := by
    intro n
    induction n with
    | zero => intro x1 x2 f0 f3 f4 g1 g2 q h; exact absurd (show none = some q from h) (fun h => by cases h)
    | succ n ih =>
      intro x1 x2 f0 f3 f4 g1 g2 q h hK
      replace h : zf_LawReader_readNumber_l0_b f1 g0 (zf_LawReader_readNumber_l0 f1 g0 n) x1 x2 f0 = some q := h
      unfold zf_LawReader_readNumber_l0_b at h
      refine zv_ild hB zd48_4 rfl rfl ?_
      refine zv_con hB zd48_5 rfl ?_
      refine zv_cge hB zd48_6 rfl (fun hc1 => ?_) (fun hc1 => ?_)
      · rw [if_neg (Int.not_lt.mpr hc1)] at h
        have hq := Option.some.inj h
        subst hq
        refine zv_wk hB (L' := [.inr 0, .inl x1, .inr 1000]) (F' := [.inl f0, .inl f1, .inr 2, .inl f3, .inl f4]) ⟨fun _ => rfl, fun _ => rfl, fun (h : zv_is (.inr 1000)) => (Nat.lt_irrefl 1000 h).elim, trivial⟩ ⟨fun _ => rfl, fun _ => rfl, fun _ => rfl, fun _ => rfl, fun _ => rfl, trivial⟩ ?_
        exact hK
      · rw [if_pos hc1] at h
        refine zv_ald hB zd48_9 rfl rfl rfl ?_
        obtain ⟨r2, hr2, h⟩ := zi_bind h
        refine zv_cv hB (zv_emq (va2 := [.inr 0]) (F := [.inl f0, .inl f1, .inr 2, .inl f3, .inl f4]) (F' := [.inl f0, .inl f1, .inr 2, .inl f3, .inl f4]) (G := [g0, g1, g2]) (G' := [g0, g1, g2]) (ρ := [0, 1]) (φ := [0, 1]) (ψ := [0]) [some 0, some 1, none, none, none] [some 0, none, none] zyw_LawReader_peek zyw_LawReader_readNumber zye_LawReader_readNumber (by decide +kernel) (zt_LawReader_peek hr2) ⟨⟨_, rfl, fun _ => rfl⟩, ⟨_, rfl, fun _ => rfl⟩, trivial⟩ ⟨rfl, trivial⟩ rfl rfl rfl rfl rfl rfl rfl) zd48_10 zxt40 rfl (by decide) (by decide) rfl ?_
        obtain ⟨r3, hr3, h⟩ := zi_bind h
        refine zv_cs hB (zv_emq (va2 := [.inl r2]) (F := [.inl f0, .inl f1, .inr 2, .inl f3, .inl f4]) (F' := [.inl f0, .inl f1, .inr 2, .inl f3, .inl f4]) (G := [g0, g1, g2]) (G' := [g0, g1, g2]) (ρ := []) (φ := []) (ψ := []) [none, none, none, none, none] [none, none, none] zyw_LawReader_isDigit zyw_LawReader_readNumber zye_LawReader_readNumber (by decide +kernel) (zt_LawReader_isDigit hr3) trivial trivial rfl rfl rfl rfl rfl rfl rfl) zd48_13 zxt47 rfl (by decide) (by decide) rfl ?_
        refine zv_zeq hB zd48_16 rfl (fun hc4 => ?_) (fun hc4 => ?_)
        · rw [if_pos hc4] at h
          have hq := Option.some.inj h
          subst hq
          refine zv_wk hB (L' := [.inr 0, .inl x1, .inr 1000]) (F' := [.inl f0, .inl f1, .inr 2, .inl f3, .inl f4]) ⟨fun _ => rfl, fun _ => rfl, fun (h : zv_is (.inr 1000)) => (Nat.lt_irrefl 1000 h).elim, trivial⟩ ⟨fun _ => rfl, fun _ => rfl, fun _ => rfl, fun _ => rfl, fun _ => rfl, trivial⟩ ?_
          exact hK
        · rw [if_neg hc4] at h
          refine zv_con hB zd48_19 rfl ?_
          refine zv_ild hB zd48_21 rfl rfl ?_
          refine zv_mulw hB zd48_22 ?_
          refine zv_ald hB zd48_23 rfl rfl rfl ?_
          obtain ⟨r5, hr5, h⟩ := zi_bind h
          refine zv_cv hB (zv_emq (va2 := [.inr 0]) (F := [.inl f0, .inl f1, .inr 2, .inl f3, .inl f4]) (F' := [.inl f0, .inl f1, .inr 2, .inl f3, .inl f4]) (G := [g0, g1, g2]) (G' := [g0, g1, g2]) (ρ := [0, 1]) (φ := [0, 1]) (ψ := [0]) [some 0, some 1, none, none, none] [some 0, none, none] zyw_LawReader_peek zyw_LawReader_readNumber zye_LawReader_readNumber (by decide +kernel) (zt_LawReader_peek hr5) ⟨⟨_, rfl, fun _ => rfl⟩, ⟨_, rfl, fun _ => rfl⟩, trivial⟩ ⟨rfl, trivial⟩ rfl rfl rfl rfl rfl rfl rfl) zd48_24 zxt40 rfl (by decide) (by decide) rfl ?_
          refine zv_addw hB zd48_27 ?_
          refine zv_con hB zd48_28 rfl ?_
          refine zv_subw hB zd48_30 ?_
          refine zv_ist hB zd48_31 rfl rfl rfl ?_
          refine zv_ald hB zd48_32 rfl rfl rfl ?_
          refine zv_dup hB zd48_33 rfl ?_
          refine zv_getf hB zd48_34 rfl rfl (fun _ _ => ?_)
          refine zv_con hB zd48_37 rfl ?_
          refine zv_addw hB zd48_38 ?_
          refine zv_putf hB zd48_39 rfl rfl (fun h => by cases h) rfl ?_
          refine zv_iincw hB zd48_42 rfl rfl ?_
          refine zv_goto hB zd48_45 rfl ?_
          exact ih _ _ _ _ _ _ _ q h hK
  unfold zf_LawReader_readNumber at h
  refine zv_con hB zd48_0 rfl ?_
  refine zv_ist hB zd48_1 rfl rfl rfl ?_
  refine zv_con hB zd48_2 rfl ?_
  refine zv_ist hB zd48_3 rfl rfl rfl ?_
  obtain ⟨q6, hq6, h⟩ := zi_bind h
  refine l0 _ _ _ _ _ _ _ _ q6 hq6 ?_
  show good 48 [.inr 0, .inl q6.1, .inr 1000] [] [.inl q6.2, .inl f1, .inr 2, .inl f3, .inl f4] [g0, g1, g2]
  refine zv_ald hB zd48_48 rfl rfl rfl ?_
  obtain ⟨r7, hr7, h⟩ := zi_bind h
  refine zv_cv hB (zv_emq (va2 := [.inr 0]) (F := [.inl q6.2, .inl f1, .inr 2, .inl f3, .inl f4]) (F' := [.inl q6.2, .inl f1, .inr 2, .inl f3, .inl f4]) (G := [g0, g1, g2]) (G' := [g0, g1, g2]) (ρ := [0, 1]) (φ := [0, 1]) (ψ := [0]) [some 0, some 1, none, none, none] [some 0, none, none] zyw_LawReader_peek zyw_LawReader_readNumber zye_LawReader_readNumber (by decide +kernel) (zt_LawReader_peek hr7) ⟨⟨_, rfl, fun _ => rfl⟩, ⟨_, rfl, fun _ => rfl⟩, trivial⟩ ⟨rfl, trivial⟩ rfl rfl rfl rfl rfl rfl rfl) zd48_49 zxt40 rfl (by decide) (by decide) rfl ?_
  obtain ⟨r8, hr8, h⟩ := zi_bind h
  refine zv_cs hB (zv_emq (va2 := [.inl r7]) (F := [.inl q6.2, .inl f1, .inr 2, .inl f3, .inl f4]) (F' := [.inl q6.2, .inl f1, .inr 2, .inl f3, .inl f4]) (G := [g0, g1, g2]) (G' := [g0, g1, g2]) (ρ := []) (φ := []) (ψ := []) [none, none, none, none, none] [none, none, none] zyw_LawReader_isDigit zyw_LawReader_readNumber zye_LawReader_readNumber (by decide +kernel) (zt_LawReader_isDigit hr8) trivial trivial rfl rfl rfl rfl rfl rfl rfl) zd48_52 zxt47 rfl (by decide) (by decide) rfl ?_
  refine zv_zeq hB zd48_55 rfl (fun hc9 => ?_) (fun hc9 => ?_)
  · rw [if_pos hc9] at h
    refine zv_ald hB zd48_63 rfl rfl rfl ?_
    refine zv_getq hB zd48_64 rfl rfl rfl ?_
    refine zv_con hB zd48_67 rfl ?_
    refine zv_ild hB zd48_68 rfl rfl ?_
    obtain ⟨r10, hr10, h⟩ := zi_bind h
    refine zv_cv hB (zv_emq (va2 := [.inr 2, .inl 0, .inl q6.1]) (F := [.inl q6.2, .inl f1, .inr 2, .inl f3, .inl f4]) (F' := [.inl q6.2, .inl f1, .inr 2, .inl r10.2.1, .inl f4]) (G := [g0, g1, g2]) (G' := [g0, r10.2.2.1, r10.2.2.2]) (ρ := [2, 3, 4]) (φ := [3]) (ψ := [1, 2]) [none, none, none, some 0, none] [none, some 0, some 1] zyw_Law_addStep zyw_LawReader_readNumber zye_LawReader_readNumber (by decide +kernel) (zt_Law_addStep hr10) ⟨⟨_, rfl, fun _ => rfl⟩, trivial⟩ ⟨rfl, rfl, trivial⟩ rfl rfl rfl rfl rfl rfl rfl) zd48_69 zxt49 rfl (by decide) (by decide) rfl ?_
    refine zv_pop hB zd48_72 rfl ?_
    have hw := Option.some.inj h
    subst hw
    exact hvret _ _ _ _ zd48_73 trivial ⟨rfl, rfl, rfl⟩
  · rw [if_neg hc9] at h
    refine zv_ald hB zd48_58 rfl rfl rfl ?_
    refine zv_con hB zd48_59 rfl ?_
    obtain ⟨r11, hr11, h⟩ := zi_bind h
    refine zv_cv hB (zv_emq (va2 := [.inr 0, .inl 2]) (F := [.inl q6.2, .inl f1, .inr 2, .inl f3, .inl f4]) (F' := [.inl q6.2, .inl f1, .inr 2, .inl f3, .inl r11]) (G := [g0, g1, g2]) (G' := [g0, g1, g2]) (ρ := [0]) (φ := [4, 0]) (ψ := []) [some 1, none, none, none, some 0] [none, none, none] zyw_LawReader_fail zyw_LawReader_readNumber zye_LawReader_readNumber (by decide +kernel) (zt_LawReader_fail hr11) ⟨⟨_, rfl, fun _ => rfl⟩, ⟨_, rfl, fun _ => rfl⟩, trivial⟩ trivial rfl rfl rfl rfl rfl rfl rfl) zd48_60 zxt41 rfl (by decide) (by decide) rfl ?_
    refine zv_ald hB zd48_63 rfl rfl rfl ?_
    refine zv_getq hB zd48_64 rfl rfl rfl ?_
    refine zv_con hB zd48_67 rfl ?_
    refine zv_ild hB zd48_68 rfl rfl ?_
    obtain ⟨r12, hr12, h⟩ := zi_bind h
    refine zv_cv hB (zv_emq (va2 := [.inr 2, .inl 0, .inl q6.1]) (F := [.inl q6.2, .inl f1, .inr 2, .inl f3, .inl r11]) (F' := [.inl q6.2, .inl f1, .inr 2, .inl r12.2.1, .inl r11]) (G := [g0, g1, g2]) (G' := [g0, r12.2.2.1, r12.2.2.2]) (ρ := [2, 3, 4]) (φ := [3]) (ψ := [1, 2]) [none, none, none, some 0, none] [none, some 0, some 1] zyw_Law_addStep zyw_LawReader_readNumber zye_LawReader_readNumber (by decide +kernel) (zt_Law_addStep hr12) ⟨⟨_, rfl, fun _ => rfl⟩, trivial⟩ ⟨rfl, rfl, trivial⟩ rfl rfl rfl rfl rfl rfl rfl) zd48_69 zxt49 rfl (by decide) (by decide) rfl ?_
    refine zv_pop hB zd48_72 rfl ?_
    have hw := Option.some.inj h
    subst hw
    exact hvret _ _ _ _ zd48_73 trivial ⟨rfl, rfl, rfl⟩
end
section
/-! Methods as functions, and that they do what these do. -/
/-! LawReader_skip (I)V -/
-- names: 0 LawReader('arg', 0), 1 (0, 220)(0, 5, 0)
-- fields: f0 = 0.fault_, f1 = 0.at_, f2 = 0.length_; arrays: g0 = 1; out: [('f', 0), ('f', 1)]
abbrev zy_LawReader_skip : zNL := (2, [(0, 5)], [(0, 5, 3, 0), (0, 5, 2, 1), (0, 5, 1, 2)], [(0, 5, 0, 1)], [(1, 0, 220, 0)])
theorem zyw_LawReader_skip : zv_wf zy_LawReader_skip = true := by decide +kernel
theorem zye_LawReader_skip : zv_ek2 zy_LawReader_skip = true := by decide +kernel
def zf_LawReader_skip (x1 : Int) (f0 : Int) (f1 : Int) (f2 : Int) (g0 : (Int → Int)) : Option (Int × Int) := if f0 = 0 then ((zf_LawReader_peek f1 f2 g0).bind fun r2 => (if r2 = x1 then (some (f0, (zi_w (f1 + 1)))) else ((zf_LawReader_fail 1 f0 f1).bind fun r4 => (some (r4, f1))))) else (some (f0, f1))
theorem zd46_0 : decode zxm46.2.1 0 = .ok (.aload_n 0, 1) := by decide +kernel
theorem zd46_1 : decode zxm46.2.1 1 = .ok (.getfield 18, 3) := by decide +kernel
theorem zd46_4 : decode zxm46.2.1 4 = .ok (.ifCond .eq 4, 3) := by decide +kernel
theorem zd46_7 : decode zxm46.2.1 7 = .ok (.return_, 1) := by decide +kernel
theorem zd46_8 : decode zxm46.2.1 8 = .ok (.aload_n 0, 1) := by decide +kernel
theorem zd46_9 : decode zxm46.2.1 9 = .ok (.invokevirtual 53, 3) := by decide +kernel
theorem zd46_12 : decode zxm46.2.1 12 = .ok (.iload_n 1, 1) := by decide +kernel
theorem zd46_13 : decode zxm46.2.1 13 = .ok (.if_icmp .ne 16, 3) := by decide +kernel
theorem zd46_16 : decode zxm46.2.1 16 = .ok (.aload_n 0, 1) := by decide +kernel
theorem zd46_17 : decode zxm46.2.1 17 = .ok (.dup, 1) := by decide +kernel
theorem zd46_18 : decode zxm46.2.1 18 = .ok (.getfield 15, 3) := by decide +kernel
theorem zd46_21 : decode zxm46.2.1 21 = .ok (.iconst 1, 1) := by decide +kernel
theorem zd46_22 : decode zxm46.2.1 22 = .ok (.iadd, 1) := by decide +kernel
theorem zd46_23 : decode zxm46.2.1 23 = .ok (.putfield 15, 3) := by decide +kernel
theorem zd46_26 : decode zxm46.2.1 26 = .ok (.goto 8, 3) := by decide +kernel
theorem zd46_29 : decode zxm46.2.1 29 = .ok (.aload_n 0, 1) := by decide +kernel
theorem zd46_30 : decode zxm46.2.1 30 = .ok (.iconst 1, 1) := by decide +kernel
theorem zd46_31 : decode zxm46.2.1 31 = .ok (.invokevirtual 57, 3) := by decide +kernel
theorem zd46_34 : decode zxm46.2.1 34 = .ok (.return_, 1) := by decide +kernel
theorem zt_LawReader_skip {x1 : Int} {f0 : Int} {f1 : Int} {f2 : Int} {g0 : (Int → Int)} {o : Int × Int} (h : zf_LawReader_skip x1 f0 f1 f2 g0 = some o) : zv_Fn z_TB z_cl z_KX zy_LawReader_skip zxm46 (2, 120) [.inr 0, .inl x1] [.inl f0, .inl f1, .inl f2] [g0] none [.inl o.1, .inl o.2, .inl f2] [g0] := zv_meth (K := (z_KF3, z_KC3, z_KL3, z_KT3, [], [], [], none)) (FT := z_FT) (MT := z_MT) (n := 2) zxp46 (z_ks3 _ (fun _ h => List.mem_cons_of_mem _ h) _ _ _ _ (fun j r h _ => by cases h)) (fun _ _ => zs_KX_p) zyw_LawReader_skip (fun va F G h => by obtain ⟨rfl, _⟩ := h; rfl) (fun va F G h => by obtain ⟨rfl, _⟩ := h; rfl) rfl fun good va F G hB hret hvret hP => by
  obtain ⟨rfl, rfl, rfl⟩ := hP
  unfold zf_LawReader_skip at h
  refine zv_ald hB zd46_0 rfl rfl rfl ?_
  refine zv_getf hB zd46_1 rfl rfl (fun _ _ => ?_)
  refine zv_zeq hB zd46_4 rfl (fun hc1 => ?_) (fun hc1 => ?_)
  · rw [if_pos hc1] at h
    refine zv_ald hB zd46_8 rfl rfl rfl ?_
    obtain ⟨r2, hr2, h⟩ := zi_bind h
    refine zv_cv hB (zv_emq (va2 := [.inr 0]) (F := [.inl f0, .inl f1, .inl f2]) (F' := [.inl f0, .inl f1, .inl f2]) (G := [g0]) (G' := [g0]) (ρ := [0, 1]) (φ := [1, 2]) (ψ := [0]) [none, some 0, some 1] [some 0] zyw_LawReader_peek zyw_LawReader_skip zye_LawReader_skip (by decide +kernel) (zt_LawReader_peek hr2) ⟨⟨_, rfl, fun _ => rfl⟩, ⟨_, rfl, fun _ => rfl⟩, trivial⟩ ⟨rfl, trivial⟩ rfl rfl rfl rfl rfl rfl rfl) zd46_9 zxt40 rfl (by decide) (by decide) rfl ?_
    refine zv_ild hB zd46_12 rfl rfl ?_
    refine zv_cne hB zd46_13 rfl (fun hc3 => ?_) (fun hc3 => ?_)
    · rw [if_neg hc3] at h
      refine zv_ald hB zd46_29 rfl rfl rfl ?_
      refine zv_con hB zd46_30 rfl ?_
      obtain ⟨r4, hr4, h⟩ := zi_bind h
      refine zv_cv hB (zv_emq (va2 := [.inr 0, .inl 1]) (F := [.inl f0, .inl f1, .inl f2]) (F' := [.inl r4, .inl f1, .inl f2]) (G := [g0]) (G' := [g0]) (ρ := [0]) (φ := [0, 1]) (ψ := []) [some 0, some 1, none] [none] zyw_LawReader_fail zyw_LawReader_skip zye_LawReader_skip (by decide +kernel) (zt_LawReader_fail hr4) ⟨⟨_, rfl, fun _ => rfl⟩, ⟨_, rfl, fun _ => rfl⟩, trivial⟩ trivial rfl rfl rfl rfl rfl rfl rfl) zd46_31 zxt41 rfl (by decide) (by decide) rfl ?_
      have hw := Option.some.inj h
      subst hw
      exact hvret _ _ _ _ zd46_34 trivial ⟨rfl, rfl, rfl⟩
    · rw [if_pos hc3] at h
      refine zv_ald hB zd46_16 rfl rfl rfl ?_
      refine zv_dup hB zd46_17 rfl ?_
      refine zv_getf hB zd46_18 rfl rfl (fun _ _ => ?_)
      refine zv_con hB zd46_21 rfl ?_
      refine zv_addw hB zd46_22 ?_
      refine zv_putf hB zd46_23 rfl rfl (fun h => by cases h) rfl ?_
      refine zv_goto hB zd46_26 rfl ?_
      have hw := Option.some.inj h
      subst hw
      exact hvret _ _ _ _ zd46_34 trivial ⟨rfl, rfl, rfl⟩
  · rw [if_neg hc1] at h
    have hw := Option.some.inj h
    subst hw
    exact hvret _ _ _ _ zd46_7 trivial ⟨rfl, rfl, rfl⟩
end
section
/-! Methods as functions, and that they do what these do. -/
/-! LawReader_readSum (I)V -/
-- names: 0 LawReader('arg', 0), 1 (0, 220)(0, 5, 0), 2 Law(0, 5, 4), 3 (0, 200)(2, 4, 0), 4 (0, 200)(2, 4, 1)
-- fields: f0 = 0.fault_, f1 = 0.at_, f2 = 0.length_, f3 = 0.law_, f4 = 2.steps_; arrays: g0 = 1, g1 = 3, g2 = 4; out: [('f', 0), ('f', 1), ('f', 4), ('g', 1), ('g', 2)]
abbrev zy_LawReader_readSum : zNL := (5, [(0, 5), (2, 4)], [(0, 5, 3, 0), (0, 5, 2, 1), (0, 5, 1, 2), (0, 5, 4, 3), (2, 4, 2, 4)], [(0, 5, 0, 1), (2, 4, 0, 3), (2, 4, 1, 4)], [(1, 0, 220, 0), (3, 0, 200, 1), (4, 0, 200, 2)])
theorem zyw_LawReader_readSum : zv_wf zy_LawReader_readSum = true := by decide +kernel
theorem zye_LawReader_readSum : zv_ek2 zy_LawReader_readSum = true := by decide +kernel
def zm_LawReader_readSum_l0_b (rc : Nat → Int → Int → Int → Int → Int → (Int → Int) → (Int → Int) → (Int → Int) → Option (Int × Int × Int × (Int → Int) × (Int → Int))) (x1 : Int) (f2 : Int) (g0 : (Int → Int)) (rec : Int → Int → Int → (Int → Int) → (Int → Int) → Option (Int × Int × Int × (Int → Int) × (Int → Int))) (f0 : Int) (f1 : Int) (f4 : Int) (g1 : (Int → Int)) (g2 : (Int → Int)) : Option (Int × Int × Int × (Int → Int) × (Int → Int)) := if f0 = 0 then (if f1 < f2 then (cond (zi_ix f1 220) (if (g0 f1) = 43 then ((rc 1 x1 f0 (zi_w (f1 + 1)) f2 f4 g0 g1 g2).bind fun r7 => ((zf_Law_addStep 5 0 r7.2.2.1 r7.2.2.2.1 r7.2.2.2.2).bind fun r8 => (rec r7.1 r7.2.1 r8.2.1 r8.2.2.1 r8.2.2.2))) else (if (g0 f1) = 45 then ((rc 1 x1 f0 (zi_w (f1 + 1)) f2 f4 g0 g1 g2).bind fun r11 => ((zf_Law_addStep 6 0 r11.2.2.1 r11.2.2.2.1 r11.2.2.2.2).bind fun r12 => (rec r11.1 r11.2.1 r12.2.1 r12.2.2.1 r12.2.2.2))) else (some (f0, f1, f4, g1, g2)))) none) else (some (f0, f1, f4, g1, g2))) else (some (f0, f1, f4, g1, g2))
def zm_LawReader_readSum_l0 (rc : Nat → Int → Int → Int → Int → Int → (Int → Int) → (Int → Int) → (Int → Int) → Option (Int × Int × Int × (Int → Int) × (Int → Int))) (x1 : Int) (f2 : Int) (g0 : (Int → Int)) : Nat → Int → Int → Int → (Int → Int) → (Int → Int) → Option (Int × Int × Int × (Int → Int) × (Int → Int))
  | 0, _, _, _, _, _ => none
  | n + 1, f0, f1, f4, g1, g2 => zm_LawReader_readSum_l0_b rc x1 f2 g0 (zm_LawReader_readSum_l0 rc x1 f2 g0 n) f0 f1 f4 g1 g2
def zm_LawReader_readSum (rc : Nat → Int → Int → Int → Int → Int → (Int → Int) → (Int → Int) → (Int → Int) → Option (Int × Int × Int × (Int → Int) × (Int → Int))) (x1 : Int) (f0 : Int) (f1 : Int) (f2 : Int) (f4 : Int) (g0 : (Int → Int)) (g1 : (Int → Int)) (g2 : (Int → Int)) : Option (Int × Int × Int × (Int → Int) × (Int → Int)) := (rc 1 x1 f0 f1 f2 f4 g0 g1 g2).bind fun r1 => ((zm_LawReader_readSum_l0 rc x1 f2 g0 zi_fu r1.1 r1.2.1 r1.2.2.1 r1.2.2.2.1 r1.2.2.2.2).bind fun q13 => (some (q13.1, q13.2.1, q13.2.2.1, q13.2.2.2.1, q13.2.2.2.2)))
theorem zd43_0 : decode zxm43.2.1 0 = .ok (.aload_n 0, 1) := by decide +kernel
theorem zd43_1 : decode zxm43.2.1 1 = .ok (.iload_n 1, 1) := by decide +kernel
theorem zd43_2 : decode zxm43.2.1 2 = .ok (.invokevirtual 88, 3) := by decide +kernel
theorem zd43_5 : decode zxm43.2.1 5 = .ok (.aload_n 0, 1) := by decide +kernel
theorem zd43_6 : decode zxm43.2.1 6 = .ok (.getfield 18, 3) := by decide +kernel
theorem zd43_9 : decode zxm43.2.1 9 = .ok (.ifCond .ne 91, 3) := by decide +kernel
theorem zd43_12 : decode zxm43.2.1 12 = .ok (.aload_n 0, 1) := by decide +kernel
theorem zd43_13 : decode zxm43.2.1 13 = .ok (.getfield 15, 3) := by decide +kernel
theorem zd43_16 : decode zxm43.2.1 16 = .ok (.aload_n 0, 1) := by decide +kernel
theorem zd43_17 : decode zxm43.2.1 17 = .ok (.getfield 9, 3) := by decide +kernel
theorem zd43_20 : decode zxm43.2.1 20 = .ok (.if_icmp .ge 80, 3) := by decide +kernel
theorem zd43_23 : decode zxm43.2.1 23 = .ok (.aload_n 0, 1) := by decide +kernel
theorem zd43_24 : decode zxm43.2.1 24 = .ok (.getfield 21, 3) := by decide +kernel
theorem zd43_27 : decode zxm43.2.1 27 = .ok (.aload_n 0, 1) := by decide +kernel
theorem zd43_28 : decode zxm43.2.1 28 = .ok (.getfield 15, 3) := by decide +kernel
theorem zd43_31 : decode zxm43.2.1 31 = .ok (.iaload, 1) := by decide +kernel
theorem zd43_32 : decode zxm43.2.1 32 = .ok (.bipush 43, 2) := by decide +kernel
theorem zd43_34 : decode zxm43.2.1 34 = .ok (.if_icmp .eq 17, 3) := by decide +kernel
theorem zd43_37 : decode zxm43.2.1 37 = .ok (.aload_n 0, 1) := by decide +kernel
theorem zd43_38 : decode zxm43.2.1 38 = .ok (.getfield 21, 3) := by decide +kernel
theorem zd43_41 : decode zxm43.2.1 41 = .ok (.aload_n 0, 1) := by decide +kernel
theorem zd43_42 : decode zxm43.2.1 42 = .ok (.getfield 15, 3) := by decide +kernel
theorem zd43_45 : decode zxm43.2.1 45 = .ok (.iaload, 1) := by decide +kernel
theorem zd43_46 : decode zxm43.2.1 46 = .ok (.bipush 45, 2) := by decide +kernel
theorem zd43_48 : decode zxm43.2.1 48 = .ok (.if_icmp .ne 52, 3) := by decide +kernel
theorem zd43_51 : decode zxm43.2.1 51 = .ok (.aload_n 0, 1) := by decide +kernel
theorem zd43_52 : decode zxm43.2.1 52 = .ok (.getfield 21, 3) := by decide +kernel
theorem zd43_55 : decode zxm43.2.1 55 = .ok (.aload_n 0, 1) := by decide +kernel
theorem zd43_56 : decode zxm43.2.1 56 = .ok (.getfield 15, 3) := by decide +kernel
theorem zd43_59 : decode zxm43.2.1 59 = .ok (.iaload, 1) := by decide +kernel
theorem zd43_60 : decode zxm43.2.1 60 = .ok (.bipush 43, 2) := by decide +kernel
theorem zd43_62 : decode zxm43.2.1 62 = .ok (.if_icmp .ne 7, 3) := by decide +kernel
theorem zd43_65 : decode zxm43.2.1 65 = .ok (.iconst 5, 1) := by decide +kernel
theorem zd43_66 : decode zxm43.2.1 66 = .ok (.goto 5, 3) := by decide +kernel
theorem zd43_69 : decode zxm43.2.1 69 = .ok (.bipush 6, 2) := by decide +kernel
theorem zd43_71 : decode zxm43.2.1 71 = .ok (.istore_n 2, 1) := by decide +kernel
theorem zd43_72 : decode zxm43.2.1 72 = .ok (.aload_n 0, 1) := by decide +kernel
theorem zd43_73 : decode zxm43.2.1 73 = .ok (.dup, 1) := by decide +kernel
theorem zd43_74 : decode zxm43.2.1 74 = .ok (.getfield 15, 3) := by decide +kernel
theorem zd43_77 : decode zxm43.2.1 77 = .ok (.iconst 1, 1) := by decide +kernel
theorem zd43_78 : decode zxm43.2.1 78 = .ok (.iadd, 1) := by decide +kernel
theorem zd43_79 : decode zxm43.2.1 79 = .ok (.putfield 15, 3) := by decide +kernel
theorem zd43_82 : decode zxm43.2.1 82 = .ok (.aload_n 0, 1) := by decide +kernel
theorem zd43_83 : decode zxm43.2.1 83 = .ok (.iload_n 1, 1) := by decide +kernel
theorem zd43_84 : decode zxm43.2.1 84 = .ok (.invokevirtual 88, 3) := by decide +kernel
theorem zd43_87 : decode zxm43.2.1 87 = .ok (.aload_n 0, 1) := by decide +kernel
theorem zd43_88 : decode zxm43.2.1 88 = .ok (.getfield 25, 3) := by decide +kernel
theorem zd43_91 : decode zxm43.2.1 91 = .ok (.iload_n 2, 1) := by decide +kernel
theorem zd43_92 : decode zxm43.2.1 92 = .ok (.iconst 0, 1) := by decide +kernel
theorem zd43_93 : decode zxm43.2.1 93 = .ok (.invokevirtual 76, 3) := by decide +kernel
theorem zd43_96 : decode zxm43.2.1 96 = .ok (.pop, 1) := by decide +kernel
theorem zd43_97 : decode zxm43.2.1 97 = .ok (.goto (-92), 3) := by decide +kernel
theorem zd43_100 : decode zxm43.2.1 100 = .ok (.return_, 1) := by decide +kernel
theorem zts_LawReader_readSum {dp : Nat} {rc : Nat → Int → Int → Int → Int → Int → (Int → Int) → (Int → Int) → (Int → Int) → Option (Int × Int × Int × (Int → Int) × (Int → Int))} (ih0 : ∀ (x1 : Int) (f0 : Int) (f1 : Int) (f2 : Int) (f4 : Int) (g0 : (Int → Int)) (g1 : (Int → Int)) (g2 : (Int → Int)) (o : Int × Int × Int × (Int → Int) × (Int → Int)), rc 0 x1 f0 f1 f2 f4 g0 g1 g2 = some o → zv_Fn z_TB z_cl z_KX zy_LawReader_readSum zxm43 (6 + dp, 60 * (6 + dp)) [.inr 0, .inl x1] [.inl f0, .inl f1, .inl f2, .inr 2, .inl f4] [g0, g1, g2] none [.inl o.1, .inl o.2.1, .inl f2, .inr 2, .inl o.2.2.1] [g0, o.2.2.2.1, o.2.2.2.2]) (ih1 : ∀ (x1 : Int) (f0 : Int) (f1 : Int) (f2 : Int) (f4 : Int) (g0 : (Int → Int)) (g1 : (Int → Int)) (g2 : (Int → Int)) (o : Int × Int × Int × (Int → Int) × (Int → Int)), rc 1 x1 f0 f1 f2 f4 g0 g1 g2 = some o → zv_Fn z_TB z_cl z_KX zy_LawReader_readSum zxm44 (6 + dp, 60 * (6 + dp)) [.inr 0, .inl x1] [.inl f0, .inl f1, .inl f2, .inr 2, .inl f4] [g0, g1, g2] none [.inl o.1, .inl o.2.1, .inl f2, .inr 2, .inl o.2.2.1] [g0, o.2.2.2.1, o.2.2.2.2]) (ih2 : ∀ (x1 : Int) (f0 : Int) (f1 : Int) (f2 : Int) (f4 : Int) (g0 : (Int → Int)) (g1 : (Int → Int)) (g2 : (Int → Int)) (o : Int × Int × Int × (Int → Int) × (Int → Int)), rc 2 x1 f0 f1 f2 f4 g0 g1 g2 = some o → zv_Fn z_TB z_cl z_KX zy_LawReader_readSum zxm45 (6 + dp, 60 * (6 + dp)) [.inr 0, .inl x1] [.inl f0, .inl f1, .inl f2, .inr 2, .inl f4] [g0, g1, g2] none [.inl o.1, .inl o.2.1, .inl f2, .inr 2, .inl o.2.2.1] [g0, o.2.2.2.1, o.2.2.2.2]) {x1 : Int} {f0 : Int} {f1 : Int} {f2 : Int} {f4 : Int} {g0 : (Int → Int)} {g1 : (Int → Int)} {g2 : (Int → Int)} {o : Int × Int × Int × (Int → Int) × (Int → Int)} (h : zm_LawReader_readSum rc x1 f0 f1 f2 f4 g0 g1 g2 = some o) : zv_Fn z_TB z_cl z_KX zy_LawReader_readSum zxm43 (6 + (dp + 1), 60 * (6 + (dp + 1))) [.inr 0, .inl x1] [.inl f0, .inl f1, .inl f2, .inr 2, .inl f4] [g0, g1, g2] none [.inl o.1, .inl o.2.1, .inl f2, .inr 2, .inl o.2.2.1] [g0, o.2.2.2.1, o.2.2.2.2] := zv_meth (K := (z_KF3, z_KC3, z_KL3, z_KT3, [], [], [], none)) (FT := z_FT) (MT := z_MT) (n := 2) zxp43 (z_ks3 _ (fun _ h => List.mem_cons_of_mem _ h) _ _ _ _ (fun j r h _ => by cases h)) (fun _ _ => zs_KX_p) zyw_LawReader_readSum (fun va F G h => by obtain ⟨rfl, _⟩ := h; rfl) (fun va F G h => by obtain ⟨rfl, _⟩ := h; rfl) rfl fun good va F G hB hret hvret hP => by
  obtain ⟨rfl, rfl, rfl⟩ := hP
  have l0 : ∀ (n : Nat) (x1 : Int) (f0 : Int) (f1 : Int) (f4 : Int) (g1 : (Int → Int)) (g2 : (Int → Int)) (q : Int × Int × Int × (Int → Int) × (Int → Int)), zm_LawReader_readSum_l0 rc x1 f2 g0 n f0 f1 f4 g1 g2 = some q → (good 100 [.inr 1000, .inr 1000, .inr 1000] [] [.inl q.1, .inl q.2.1, .inl f2, .inr 2, .inl q.2.2.1] [g0, q.2.2.2.1, q.2.2.2.2]) → good 5 [.inr 0, .inl x1, .inr 1000] [] [.inl f0, .inl f1, .inl f2, .inr 2, .inl f4] [g0, g1, g2] := by
    intro n
    induction n with
    | zero => intro x1 f0 f1 f4 g1 g2 q h; exact absurd (show none = some q from h) (fun h => by cases h)
    | succ n ih =>
      intro x1 f0 f1 f4 g1 g2 q h hK
      replace h : zm_LawReader_readSum_l0_b rc x1 f2 g0 (zm_LawReader_readSum_l0 rc x1 f2 g0 n) f0 f1 f4 g1 g2 = some q := h
      unfold zm_LawReader_readSum_l0_b at h
      refine zv_ald hB zd43_5 rfl rfl rfl ?_
      refine zv_getf hB zd43_6 rfl rfl (fun _ _ => ?_)
      refine zv_zne hB zd43_9 rfl (fun hc2 => ?_) (fun hc2 => ?_)
      · rw [if_neg hc2] at h
        have hq := Option.some.inj h
        subst hq
        refine zv_wk hB (L' := [.inr 1000, .inr 1000, .inr 1000]) (F' := [.inl f0, .inl f1, .inl f2, .inr 2, .inl f4]) ⟨fun (h : zv_is (.inr 1000)) => (Nat.lt_irrefl 1000 h).elim, fun (h : zv_is (.inr 1000)) => (Nat.lt_irrefl 1000 h).elim, fun (h : zv_is (.inr 1000)) => (Nat.lt_irrefl 1000 h).elim, trivial⟩ ⟨fun _ => rfl, fun _ => rfl, fun _ => rfl, fun _ => rfl, fun _ => rfl, trivial⟩ ?_
        exact hK
      · rw [if_pos hc2] at h
        refine zv_ald hB zd43_12 rfl rfl rfl ?_
        refine zv_getf hB zd43_13 rfl rfl (fun _ _ => ?_)
        refine zv_ald hB zd43_16 rfl rfl rfl ?_
        refine zv_getf hB zd43_17 rfl rfl (fun _ _ => ?_)
        refine zv_cge hB zd43_20 rfl (fun hc3 => ?_) (fun hc3 => ?_)
        · rw [if_neg (Int.not_lt.mpr hc3)] at h
          have hq := Option.some.inj h
          subst hq
          refine zv_wk hB (L' := [.inr 1000, .inr 1000, .inr 1000]) (F' := [.inl f0, .inl f1, .inl f2, .inr 2, .inl f4]) ⟨fun (h : zv_is (.inr 1000)) => (Nat.lt_irrefl 1000 h).elim, fun (h : zv_is (.inr 1000)) => (Nat.lt_irrefl 1000 h).elim, fun (h : zv_is (.inr 1000)) => (Nat.lt_irrefl 1000 h).elim, trivial⟩ ⟨fun _ => rfl, fun _ => rfl, fun _ => rfl, fun _ => rfl, fun _ => rfl, trivial⟩ ?_
          exact hK
        · rw [if_pos hc3] at h
          refine zv_ald hB zd43_23 rfl rfl rfl ?_
          refine zv_getr hB zd43_24 rfl ?_
          refine zv_ald hB zd43_27 rfl rfl rfl ?_
          refine zv_getf hB zd43_28 rfl rfl (fun _ _ => ?_)
          obtain ⟨c4, h⟩ := zi_if h
          refine zv_iald hB zd43_31 rfl rfl (zi_ix_ok c4).1 (zi_ix_ok c4).2 (fun _ _ => ?_)
          refine zv_con hB zd43_32 rfl ?_
          refine zv_ceq hB zd43_34 rfl (fun hc5 => ?_) (fun hc5 => ?_)
          · rw [if_pos hc5] at h
            refine zv_ald hB zd43_51 rfl rfl rfl ?_
            refine zv_getr hB zd43_52 rfl ?_
            refine zv_ald hB zd43_55 rfl rfl rfl ?_
            refine zv_getf hB zd43_56 rfl rfl (fun _ _ => ?_)
            refine zv_iald hB zd43_59 rfl rfl (zi_ix_ok c4).1 (zi_ix_ok c4).2 (fun _ _ => ?_)
            refine zv_con hB zd43_60 rfl ?_
            refine zv_cne hB zd43_62 rfl (fun hc => absurd hc (by omega)) (fun _ => ?_)
            refine zv_con hB zd43_65 rfl ?_
            refine zv_goto hB zd43_66 rfl ?_
            refine zv_ist hB zd43_71 rfl rfl rfl ?_
            refine zv_ald hB zd43_72 rfl rfl rfl ?_
            refine zv_dup hB zd43_73 rfl ?_
            refine zv_getf hB zd43_74 rfl rfl (fun _ _ => ?_)
            refine zv_con hB zd43_77 rfl ?_
            refine zv_addw hB zd43_78 ?_
            refine zv_putf hB zd43_79 rfl rfl (fun h => by cases h) rfl ?_
            refine zv_ald hB zd43_82 rfl rfl rfl ?_
            refine zv_ild hB zd43_83 rfl rfl ?_
            obtain ⟨r7, hr7, h⟩ := zi_bind h
            refine zv_cv hB (show zv_Fn _ _ _ zy_LawReader_readSum _ _ [.inr 0, .inl x1] [.inl f0, .inl (zi_w (f1 + 1)), .inl f2, .inr 2, .inl f4] [g0, g1, g2] none [.inl r7.1, .inl r7.2.1, .inl f2, .inr 2, .inl r7.2.2.1] [g0, r7.2.2.2.1, r7.2.2.2.2] from ih1 _ _ _ _ _ _ _ _ r7 hr7) zd43_84 zxt44 rfl (by show 6 + dp + 1 ≤ 6 + (dp + 1); omega) (by show 8 + (3 + 11) + 60 * (6 + dp) ≤ 60 * (6 + (dp + 1)); omega) rfl ?_
            refine zv_ald hB zd43_87 rfl rfl rfl ?_
            refine zv_getq hB zd43_88 rfl rfl rfl ?_
            refine zv_ild hB zd43_91 rfl rfl ?_
            refine zv_con hB zd43_92 rfl ?_
            obtain ⟨r8, hr8, h⟩ := zi_bind h
            refine zv_cv hB (zv_emq (va2 := [.inr 2, .inl 5, .inl 0]) (F := [.inl r7.1, .inl r7.2.1, .inl f2, .inr 2, .inl r7.2.2.1]) (F' := [.inl r7.1, .inl r7.2.1, .inl f2, .inr 2, .inl r8.2.1]) (G := [g0, r7.2.2.2.1, r7.2.2.2.2]) (G' := [g0, r8.2.2.1, r8.2.2.2]) (ρ := [2, 3, 4]) (φ := [4]) (ψ := [1, 2]) [none, none, none, none, some 0] [none, some 0, some 1] zyw_Law_addStep zyw_LawReader_readSum zye_LawReader_readSum (by decide +kernel) (zt_Law_addStep hr8) ⟨⟨_, rfl, fun _ => rfl⟩, trivial⟩ ⟨rfl, rfl, trivial⟩ rfl rfl rfl rfl rfl rfl rfl) zd43_93 zxt49 rfl (by show 0 + 1 ≤ 6 + (dp + 1); omega) (by show 8 + (3 + 11) + 60 * (0) ≤ 60 * (6 + (dp + 1)); omega) rfl ?_
            refine zv_pop hB zd43_96 rfl ?_
            refine zv_goto hB zd43_97 rfl ?_
            refine zv_wk hB (L' := [.inr 0, .inl x1, .inr 1000]) (F' := [.inl r7.1, .inl r7.2.1, .inl f2, .inr 2, .inl r8.2.1]) ⟨fun _ => rfl, fun _ => rfl, fun (h : zv_is (.inr 1000)) => (Nat.lt_irrefl 1000 h).elim, trivial⟩ ⟨fun _ => rfl, fun _ => rfl, fun _ => rfl, fun _ => rfl, fun _ => rfl, trivial⟩ ?_
            exact ih _ _ _ _ _ _ q h hK
          · rw [if_neg hc5] at h
            refine zv_ald hB zd43_37 rfl rfl rfl ?_
            refine zv_getr hB zd43_38 rfl ?_
            refine zv_ald hB zd43_41 rfl rfl rfl ?_
            refine zv_getf hB zd43_42 rfl rfl (fun _ _ => ?_)
            refine zv_iald hB zd43_45 rfl rfl (zi_ix_ok c4).1 (zi_ix_ok c4).2 (fun _ _ => ?_)
            refine zv_con hB zd43_46 rfl ?_
            refine zv_cne hB zd43_48 rfl (fun hc9 => ?_) (fun hc9 => ?_)
            · rw [if_neg hc9] at h
              have hq := Option.some.inj h
              subst hq
              refine zv_wk hB (L' := [.inr 1000, .inr 1000, .inr 1000]) (F' := [.inl f0, .inl f1, .inl f2, .inr 2, .inl f4]) ⟨fun (h : zv_is (.inr 1000)) => (Nat.lt_irrefl 1000 h).elim, fun (h : zv_is (.inr 1000)) => (Nat.lt_irrefl 1000 h).elim, fun (h : zv_is (.inr 1000)) => (Nat.lt_irrefl 1000 h).elim, trivial⟩ ⟨fun _ => rfl, fun _ => rfl, fun _ => rfl, fun _ => rfl, fun _ => rfl, trivial⟩ ?_
              exact hK
            · rw [if_pos hc9] at h
              refine zv_ald hB zd43_51 rfl rfl rfl ?_
              refine zv_getr hB zd43_52 rfl ?_
              refine zv_ald hB zd43_55 rfl rfl rfl ?_
              refine zv_getf hB zd43_56 rfl rfl (fun _ _ => ?_)
              refine zv_iald hB zd43_59 rfl rfl (zi_ix_ok c4).1 (zi_ix_ok c4).2 (fun _ _ => ?_)
              refine zv_con hB zd43_60 rfl ?_
              refine zv_cne hB zd43_62 rfl (fun _ => ?_) (fun hc => absurd hc (by omega))
              refine zv_con hB zd43_69 rfl ?_
              refine zv_ist hB zd43_71 rfl rfl rfl ?_
              refine zv_ald hB zd43_72 rfl rfl rfl ?_
              refine zv_dup hB zd43_73 rfl ?_
              refine zv_getf hB zd43_74 rfl rfl (fun _ _ => ?_)
              refine zv_con hB zd43_77 rfl ?_
              refine zv_addw hB zd43_78 ?_
              refine zv_putf hB zd43_79 rfl rfl (fun h => by cases h) rfl ?_
              refine zv_ald hB zd43_82 rfl rfl rfl ?_
              refine zv_ild hB zd43_83 rfl rfl ?_
              obtain ⟨r11, hr11, h⟩ := zi_bind h
              refine zv_cv hB (show zv_Fn _ _ _ zy_LawReader_readSum _ _ [.inr 0, .inl x1] [.inl f0, .inl (zi_w (f1 + 1)), .inl f2, .inr 2, .inl f4] [g0, g1, g2] none [.inl r11.1, .inl r11.2.1, .inl f2, .inr 2, .inl r11.2.2.1] [g0, r11.2.2.2.1, r11.2.2.2.2] from ih1 _ _ _ _ _ _ _ _ r11 hr11) zd43_84 zxt44 rfl (by show 6 + dp + 1 ≤ 6 + (dp + 1); omega) (by show 8 + (3 + 11) + 60 * (6 + dp) ≤ 60 * (6 + (dp + 1)); omega) rfl ?_
              refine zv_ald hB zd43_87 rfl rfl rfl ?_
              refine zv_getq hB zd43_88 rfl rfl rfl ?_
              refine zv_ild hB zd43_91 rfl rfl ?_
              refine zv_con hB zd43_92 rfl ?_
              obtain ⟨r12, hr12, h⟩ := zi_bind h
              refine zv_cv hB (zv_emq (va2 := [.inr 2, .inl 6, .inl 0]) (F := [.inl r11.1, .inl r11.2.1, .inl f2, .inr 2, .inl r11.2.2.1]) (F' := [.inl r11.1, .inl r11.2.1, .inl f2, .inr 2, .inl r12.2.1]) (G := [g0, r11.2.2.2.1, r11.2.2.2.2]) (G' := [g0, r12.2.2.1, r12.2.2.2]) (ρ := [2, 3, 4]) (φ := [4]) (ψ := [1, 2]) [none, none, none, none, some 0] [none, some 0, some 1] zyw_Law_addStep zyw_LawReader_readSum zye_LawReader_readSum (by decide +kernel) (zt_Law_addStep hr12) ⟨⟨_, rfl, fun _ => rfl⟩, trivial⟩ ⟨rfl, rfl, trivial⟩ rfl rfl rfl rfl rfl rfl rfl) zd43_93 zxt49 rfl (by show 0 + 1 ≤ 6 + (dp + 1); omega) (by show 8 + (3 + 11) + 60 * (0) ≤ 60 * (6 + (dp + 1)); omega) rfl ?_
              refine zv_pop hB zd43_96 rfl ?_
              refine zv_goto hB zd43_97 rfl ?_
              refine zv_wk hB (L' := [.inr 0, .inl x1, .inr 1000]) (F' := [.inl r11.1, .inl r11.2.1, .inl f2, .inr 2, .inl r12.2.1]) ⟨fun _ => rfl, fun _ => rfl, fun (h : zv_is (.inr 1000)) => (Nat.lt_irrefl 1000 h).elim, trivial⟩ ⟨fun _ => rfl, fun _ => rfl, fun _ => rfl, fun _ => rfl, fun _ => rfl, trivial⟩ ?_
              exact ih _ _ _ _ _ _ q h hK
  unfold zm_LawReader_readSum at h
  refine zv_ald hB zd43_0 rfl rfl rfl ?_
  refine zv_ild hB zd43_1 rfl rfl ?_
  obtain ⟨r1, hr1, h⟩ := zi_bind h
  refine zv_cv hB (show zv_Fn _ _ _ zy_LawReader_readSum _ _ [.inr 0, .inl x1] [.inl f0, .inl f1, .inl f2, .inr 2, .inl f4] [g0, g1, g2] none [.inl r1.1, .inl r1.2.1, .inl f2, .inr 2, .inl r1.2.2.1] [g0, r1.2.2.2.1, r1.2.2.2.2] from ih1 _ _ _ _ _ _ _ _ r1 hr1) zd43_2 zxt44 rfl (by show 6 + dp + 1 ≤ 6 + (dp + 1); omega) (by show 8 + (3 + 11) + 60 * (6 + dp) ≤ 60 * (6 + (dp + 1)); omega) rfl ?_
  obtain ⟨q13, hq13, h⟩ := zi_bind h
  refine l0 _ _ _ _ _ _ _ q13 hq13 ?_
  show good 100 [.inr 1000, .inr 1000, .inr 1000] [] [.inl q13.1, .inl q13.2.1, .inl f2, .inr 2, .inl q13.2.2.1] [g0, q13.2.2.2.1, q13.2.2.2.2]
  have hw := Option.some.inj h
  subst hw
  exact hvret _ _ _ _ zd43_100 trivial ⟨rfl, rfl, rfl⟩
/-! LawReader_readTerm (I)V -/
def zm_LawReader_readTerm_l0_b (rc : Nat → Int → Int → Int → Int → Int → (Int → Int) → (Int → Int) → (Int → Int) → Option (Int × Int × Int × (Int → Int) × (Int → Int))) (x1 : Int) (f2 : Int) (g0 : (Int → Int)) (rec : Int → Int → Int → (Int → Int) → (Int → Int) → Option (Int × Int × Int × (Int → Int) × (Int → Int))) (f0 : Int) (f1 : Int) (f4 : Int) (g1 : (Int → Int)) (g2 : (Int → Int)) : Option (Int × Int × Int × (Int → Int) × (Int → Int)) := if f0 = 0 then (if f1 < f2 then (cond (zi_ix f1 220) (if (g0 f1) = 42 then ((rc 2 x1 f0 (zi_w (f1 + 1)) f2 f4 g0 g1 g2).bind fun r7 => ((zf_Law_addStep 7 0 r7.2.2.1 r7.2.2.2.1 r7.2.2.2.2).bind fun r8 => (rec r7.1 r7.2.1 r8.2.1 r8.2.2.1 r8.2.2.2))) else (if (g0 f1) = 47 then ((rc 2 x1 f0 (zi_w (f1 + 1)) f2 f4 g0 g1 g2).bind fun r12 => ((zf_Law_addStep 8 0 r12.2.2.1 r12.2.2.2.1 r12.2.2.2.2).bind fun r13 => (rec r12.1 r12.2.1 r13.2.1 r13.2.2.1 r13.2.2.2))) else (if (g0 f1) = 37 then ((rc 2 x1 f0 (zi_w (f1 + 1)) f2 f4 g0 g1 g2).bind fun r17 => ((zf_Law_addStep 9 0 r17.2.2.1 r17.2.2.2.1 r17.2.2.2.2).bind fun r18 => (rec r17.1 r17.2.1 r18.2.1 r18.2.2.1 r18.2.2.2))) else (some (f0, f1, f4, g1, g2))))) none) else (some (f0, f1, f4, g1, g2))) else (some (f0, f1, f4, g1, g2))
def zm_LawReader_readTerm_l0 (rc : Nat → Int → Int → Int → Int → Int → (Int → Int) → (Int → Int) → (Int → Int) → Option (Int × Int × Int × (Int → Int) × (Int → Int))) (x1 : Int) (f2 : Int) (g0 : (Int → Int)) : Nat → Int → Int → Int → (Int → Int) → (Int → Int) → Option (Int × Int × Int × (Int → Int) × (Int → Int))
  | 0, _, _, _, _, _ => none
  | n + 1, f0, f1, f4, g1, g2 => zm_LawReader_readTerm_l0_b rc x1 f2 g0 (zm_LawReader_readTerm_l0 rc x1 f2 g0 n) f0 f1 f4 g1 g2
def zm_LawReader_readTerm (rc : Nat → Int → Int → Int → Int → Int → (Int → Int) → (Int → Int) → (Int → Int) → Option (Int × Int × Int × (Int → Int) × (Int → Int))) (x1 : Int) (f0 : Int) (f1 : Int) (f2 : Int) (f4 : Int) (g0 : (Int → Int)) (g1 : (Int → Int)) (g2 : (Int → Int)) : Option (Int × Int × Int × (Int → Int) × (Int → Int)) := (rc 2 x1 f0 f1 f2 f4 g0 g1 g2).bind fun r1 => ((zm_LawReader_readTerm_l0 rc x1 f2 g0 zi_fu r1.1 r1.2.1 r1.2.2.1 r1.2.2.2.1 r1.2.2.2.2).bind fun q19 => (some (q19.1, q19.2.1, q19.2.2.1, q19.2.2.2.1, q19.2.2.2.2)))
theorem zd44_0 : decode zxm44.2.1 0 = .ok (.aload_n 0, 1) := by decide +kernel
theorem zd44_1 : decode zxm44.2.1 1 = .ok (.iload_n 1, 1) := by decide +kernel
theorem zd44_2 : decode zxm44.2.1 2 = .ok (.invokevirtual 91, 3) := by decide +kernel
theorem zd44_5 : decode zxm44.2.1 5 = .ok (.aload_n 0, 1) := by decide +kernel
theorem zd44_6 : decode zxm44.2.1 6 = .ok (.getfield 18, 3) := by decide +kernel
theorem zd44_9 : decode zxm44.2.1 9 = .ok (.ifCond .ne 125, 3) := by decide +kernel
theorem zd44_12 : decode zxm44.2.1 12 = .ok (.aload_n 0, 1) := by decide +kernel
theorem zd44_13 : decode zxm44.2.1 13 = .ok (.getfield 15, 3) := by decide +kernel
theorem zd44_16 : decode zxm44.2.1 16 = .ok (.aload_n 0, 1) := by decide +kernel
theorem zd44_17 : decode zxm44.2.1 17 = .ok (.getfield 9, 3) := by decide +kernel
theorem zd44_20 : decode zxm44.2.1 20 = .ok (.if_icmp .ge 114, 3) := by decide +kernel
theorem zd44_23 : decode zxm44.2.1 23 = .ok (.aload_n 0, 1) := by decide +kernel
theorem zd44_24 : decode zxm44.2.1 24 = .ok (.getfield 21, 3) := by decide +kernel
theorem zd44_27 : decode zxm44.2.1 27 = .ok (.aload_n 0, 1) := by decide +kernel
theorem zd44_28 : decode zxm44.2.1 28 = .ok (.getfield 15, 3) := by decide +kernel
theorem zd44_31 : decode zxm44.2.1 31 = .ok (.iaload, 1) := by decide +kernel
theorem zd44_32 : decode zxm44.2.1 32 = .ok (.bipush 42, 2) := by decide +kernel
theorem zd44_34 : decode zxm44.2.1 34 = .ok (.if_icmp .eq 31, 3) := by decide +kernel
theorem zd44_37 : decode zxm44.2.1 37 = .ok (.aload_n 0, 1) := by decide +kernel
theorem zd44_38 : decode zxm44.2.1 38 = .ok (.getfield 21, 3) := by decide +kernel
theorem zd44_41 : decode zxm44.2.1 41 = .ok (.aload_n 0, 1) := by decide +kernel
theorem zd44_42 : decode zxm44.2.1 42 = .ok (.getfield 15, 3) := by decide +kernel
theorem zd44_45 : decode zxm44.2.1 45 = .ok (.iaload, 1) := by decide +kernel
theorem zd44_46 : decode zxm44.2.1 46 = .ok (.bipush 47, 2) := by decide +kernel
theorem zd44_48 : decode zxm44.2.1 48 = .ok (.if_icmp .eq 17, 3) := by decide +kernel
theorem zd44_51 : decode zxm44.2.1 51 = .ok (.aload_n 0, 1) := by decide +kernel
theorem zd44_52 : decode zxm44.2.1 52 = .ok (.getfield 21, 3) := by decide +kernel
theorem zd44_55 : decode zxm44.2.1 55 = .ok (.aload_n 0, 1) := by decide +kernel
theorem zd44_56 : decode zxm44.2.1 56 = .ok (.getfield 15, 3) := by decide +kernel
theorem zd44_59 : decode zxm44.2.1 59 = .ok (.iaload, 1) := by decide +kernel
theorem zd44_60 : decode zxm44.2.1 60 = .ok (.bipush 37, 2) := by decide +kernel
theorem zd44_62 : decode zxm44.2.1 62 = .ok (.if_icmp .ne 72, 3) := by decide +kernel
theorem zd44_65 : decode zxm44.2.1 65 = .ok (.aload_n 0, 1) := by decide +kernel
theorem zd44_66 : decode zxm44.2.1 66 = .ok (.getfield 21, 3) := by decide +kernel
theorem zd44_69 : decode zxm44.2.1 69 = .ok (.aload_n 0, 1) := by decide +kernel
theorem zd44_70 : decode zxm44.2.1 70 = .ok (.getfield 15, 3) := by decide +kernel
theorem zd44_73 : decode zxm44.2.1 73 = .ok (.iaload, 1) := by decide +kernel
theorem zd44_74 : decode zxm44.2.1 74 = .ok (.bipush 42, 2) := by decide +kernel
theorem zd44_76 : decode zxm44.2.1 76 = .ok (.if_icmp .ne 8, 3) := by decide +kernel
theorem zd44_79 : decode zxm44.2.1 79 = .ok (.bipush 7, 2) := by decide +kernel
theorem zd44_81 : decode zxm44.2.1 81 = .ok (.goto 24, 3) := by decide +kernel
theorem zd44_84 : decode zxm44.2.1 84 = .ok (.aload_n 0, 1) := by decide +kernel
theorem zd44_85 : decode zxm44.2.1 85 = .ok (.getfield 21, 3) := by decide +kernel
theorem zd44_88 : decode zxm44.2.1 88 = .ok (.aload_n 0, 1) := by decide +kernel
theorem zd44_89 : decode zxm44.2.1 89 = .ok (.getfield 15, 3) := by decide +kernel
theorem zd44_92 : decode zxm44.2.1 92 = .ok (.iaload, 1) := by decide +kernel
theorem zd44_93 : decode zxm44.2.1 93 = .ok (.bipush 47, 2) := by decide +kernel
theorem zd44_95 : decode zxm44.2.1 95 = .ok (.if_icmp .ne 8, 3) := by decide +kernel
theorem zd44_98 : decode zxm44.2.1 98 = .ok (.bipush 8, 2) := by decide +kernel
theorem zd44_100 : decode zxm44.2.1 100 = .ok (.goto 5, 3) := by decide +kernel
theorem zd44_103 : decode zxm44.2.1 103 = .ok (.bipush 9, 2) := by decide +kernel
theorem zd44_105 : decode zxm44.2.1 105 = .ok (.istore_n 2, 1) := by decide +kernel
theorem zd44_106 : decode zxm44.2.1 106 = .ok (.aload_n 0, 1) := by decide +kernel
theorem zd44_107 : decode zxm44.2.1 107 = .ok (.dup, 1) := by decide +kernel
theorem zd44_108 : decode zxm44.2.1 108 = .ok (.getfield 15, 3) := by decide +kernel
theorem zd44_111 : decode zxm44.2.1 111 = .ok (.iconst 1, 1) := by decide +kernel
theorem zd44_112 : decode zxm44.2.1 112 = .ok (.iadd, 1) := by decide +kernel
theorem zd44_113 : decode zxm44.2.1 113 = .ok (.putfield 15, 3) := by decide +kernel
theorem zd44_116 : decode zxm44.2.1 116 = .ok (.aload_n 0, 1) := by decide +kernel
theorem zd44_117 : decode zxm44.2.1 117 = .ok (.iload_n 1, 1) := by decide +kernel
theorem zd44_118 : decode zxm44.2.1 118 = .ok (.invokevirtual 91, 3) := by decide +kernel
theorem zd44_121 : decode zxm44.2.1 121 = .ok (.aload_n 0, 1) := by decide +kernel
theorem zd44_122 : decode zxm44.2.1 122 = .ok (.getfield 25, 3) := by decide +kernel
theorem zd44_125 : decode zxm44.2.1 125 = .ok (.iload_n 2, 1) := by decide +kernel
theorem zd44_126 : decode zxm44.2.1 126 = .ok (.iconst 0, 1) := by decide +kernel
theorem zd44_127 : decode zxm44.2.1 127 = .ok (.invokevirtual 76, 3) := by decide +kernel
theorem zd44_130 : decode zxm44.2.1 130 = .ok (.pop, 1) := by decide +kernel
theorem zd44_131 : decode zxm44.2.1 131 = .ok (.goto (-126), 3) := by decide +kernel
theorem zd44_134 : decode zxm44.2.1 134 = .ok (.return_, 1) := by decide +kernel
theorem zts_LawReader_readTerm {dp : Nat} {rc : Nat → Int → Int → Int → Int → Int → (Int → Int) → (Int → Int) → (Int → Int) → Option (Int × Int × Int × (Int → Int) × (Int → Int))} (ih0 : ∀ (x1 : Int) (f0 : Int) (f1 : Int) (f2 : Int) (f4 : Int) (g0 : (Int → Int)) (g1 : (Int → Int)) (g2 : (Int → Int)) (o : Int × Int × Int × (Int → Int) × (Int → Int)), rc 0 x1 f0 f1 f2 f4 g0 g1 g2 = some o → zv_Fn z_TB z_cl z_KX zy_LawReader_readSum zxm43 (6 + dp, 60 * (6 + dp)) [.inr 0, .inl x1] [.inl f0, .inl f1, .inl f2, .inr 2, .inl f4] [g0, g1, g2] none [.inl o.1, .inl o.2.1, .inl f2, .inr 2, .inl o.2.2.1] [g0, o.2.2.2.1, o.2.2.2.2]) (ih1 : ∀ (x1 : Int) (f0 : Int) (f1 : Int) (f2 : Int) (f4 : Int) (g0 : (Int → Int)) (g1 : (Int → Int)) (g2 : (Int → Int)) (o : Int × Int × Int × (Int → Int) × (Int → Int)), rc 1 x1 f0 f1 f2 f4 g0 g1 g2 = some o → zv_Fn z_TB z_cl z_KX zy_LawReader_readSum zxm44 (6 + dp, 60 * (6 + dp)) [.inr 0, .inl x1] [.inl f0, .inl f1, .inl f2, .inr 2, .inl f4] [g0, g1, g2] none [.inl o.1, .inl o.2.1, .inl f2, .inr 2, .inl o.2.2.1] [g0, o.2.2.2.1, o.2.2.2.2]) (ih2 : ∀ (x1 : Int) (f0 : Int) (f1 : Int) (f2 : Int) (f4 : Int) (g0 : (Int → Int)) (g1 : (Int → Int)) (g2 : (Int → Int)) (o : Int × Int × Int × (Int → Int) × (Int → Int)), rc 2 x1 f0 f1 f2 f4 g0 g1 g2 = some o → zv_Fn z_TB z_cl z_KX zy_LawReader_readSum zxm45 (6 + dp, 60 * (6 + dp)) [.inr 0, .inl x1] [.inl f0, .inl f1, .inl f2, .inr 2, .inl f4] [g0, g1, g2] none [.inl o.1, .inl o.2.1, .inl f2, .inr 2, .inl o.2.2.1] [g0, o.2.2.2.1, o.2.2.2.2]) {x1 : Int} {f0 : Int} {f1 : Int} {f2 : Int} {f4 : Int} {g0 : (Int → Int)} {g1 : (Int → Int)} {g2 : (Int → Int)} {o : Int × Int × Int × (Int → Int) × (Int → Int)} (h : zm_LawReader_readTerm rc x1 f0 f1 f2 f4 g0 g1 g2 = some o) : zv_Fn z_TB z_cl z_KX zy_LawReader_readSum zxm44 (6 + (dp + 1), 60 * (6 + (dp + 1))) [.inr 0, .inl x1] [.inl f0, .inl f1, .inl f2, .inr 2, .inl f4] [g0, g1, g2] none [.inl o.1, .inl o.2.1, .inl f2, .inr 2, .inl o.2.2.1] [g0, o.2.2.2.1, o.2.2.2.2] := zv_meth (K := (z_KF3, z_KC3, z_KL3, z_KT3, [], [], [], none)) (FT := z_FT) (MT := z_MT) (n := 2) zxp44 (z_ks3 _ (fun _ h => List.mem_cons_of_mem _ h) _ _ _ _ (fun j r h _ => by cases h)) (fun _ _ => zs_KX_p) zyw_LawReader_readSum (fun va F G h => by obtain ⟨rfl, _⟩ := h; rfl) (fun va F G h => by obtain ⟨rfl, _⟩ := h; rfl) rfl fun good va F G hB hret hvret hP => by
  obtain ⟨rfl, rfl, rfl⟩ := hP
  have l0 : ∀ (n : Nat) (x1 : Int) (f0 : Int) (f1 : Int) (f4 : Int) (g1 : (Int → Int)) (g2 : (Int → Int)) (q : Int × Int × Int × (Int → Int) × (Int → Int)), zm_LawReader_readTerm_l0 rc x1 f2 g0 n f0 f1 f4 g1 g2 = some q → (good 134 [.inr 1000, .inr 1000, .inr 1000] [] [.inl q.1, .inl q.2.1, .inl f2, .inr 2, .inl q.2.2.1] [g0, q.2.2.2.1, q.2.2.2.2]) → good 5 [.inr 0, .inl x1, .inr 1000] [] [.inl f0, .inl f1, .inl f2, .inr 2, .inl f4] [g0, g1, g2] := by
    intro n
    induction n with
    | zero => intro x1 f0 f1 f4 g1 g2 q h; exact absurd (show none = some q from h) (fun h => by cases h)
    | succ n ih =>
      intro x1 f0 f1 f4 g1 g2 q h hK
      replace h : zm_LawReader_readTerm_l0_b rc x1 f2 g0 (zm_LawReader_readTerm_l0 rc x1 f2 g0 n) f0 f1 f4 g1 g2 = some q := h
      unfold zm_LawReader_readTerm_l0_b at h
      refine zv_ald hB zd44_5 rfl rfl rfl ?_
      refine zv_getf hB zd44_6 rfl rfl (fun _ _ => ?_)
      refine zv_zne hB zd44_9 rfl (fun hc2 => ?_) (fun hc2 => ?_)
      · rw [if_neg hc2] at h
        have hq := Option.some.inj h
        subst hq
        refine zv_wk hB (L' := [.inr 1000, .inr 1000, .inr 1000]) (F' := [.inl f0, .inl f1, .inl f2, .inr 2, .inl f4]) ⟨fun (h : zv_is (.inr 1000)) => (Nat.lt_irrefl 1000 h).elim, fun (h : zv_is (.inr 1000)) => (Nat.lt_irrefl 1000 h).elim, fun (h : zv_is (.inr 1000)) => (Nat.lt_irrefl 1000 h).elim, trivial⟩ ⟨fun _ => rfl, fun _ => rfl, fun _ => rfl, fun _ => rfl, fun _ => rfl, trivial⟩ ?_
        exact hK
      · rw [if_pos hc2] at h
        refine zv_ald hB zd44_12 rfl rfl rfl ?_
        refine zv_getf hB zd44_13 rfl rfl (fun _ _ => ?_)
        refine zv_ald hB zd44_16 rfl rfl rfl ?_
        refine zv_getf hB zd44_17 rfl rfl (fun _ _ => ?_)
        refine zv_cge hB zd44_20 rfl (fun hc3 => ?_) (fun hc3 => ?_)
        · rw [if_neg (Int.not_lt.mpr hc3)] at h
          have hq := Option.some.inj h
          subst hq
          refine zv_wk hB (L' := [.inr 1000, .inr 1000, .inr 1000]) (F' := [.inl f0, .inl f1, .inl f2, .inr 2, .inl f4]) ⟨fun (h : zv_is (.inr 1000)) => (Nat.lt_irrefl 1000 h).elim, fun (h : zv_is (.inr 1000)) => (Nat.lt_irrefl 1000 h).elim, fun (h : zv_is (.inr 1000)) => (Nat.lt_irrefl 1000 h).elim, trivial⟩ ⟨fun _ => rfl, fun _ => rfl, fun _ => rfl, fun _ => rfl, fun _ => rfl, trivial⟩ ?_
          exact hK
        · rw [if_pos hc3] at h
          refine zv_ald hB zd44_23 rfl rfl rfl ?_
          refine zv_getr hB zd44_24 rfl ?_
          refine zv_ald hB zd44_27 rfl rfl rfl ?_
          refine zv_getf hB zd44_28 rfl rfl (fun _ _ => ?_)
          obtain ⟨c4, h⟩ := zi_if h
          refine zv_iald hB zd44_31 rfl rfl (zi_ix_ok c4).1 (zi_ix_ok c4).2 (fun _ _ => ?_)
          refine zv_con hB zd44_32 rfl ?_
          refine zv_ceq hB zd44_34 rfl (fun hc5 => ?_) (fun hc5 => ?_)
          · rw [if_pos hc5] at h
            refine zv_ald hB zd44_65 rfl rfl rfl ?_
            refine zv_getr hB zd44_66 rfl ?_
            refine zv_ald hB zd44_69 rfl rfl rfl ?_
            refine zv_getf hB zd44_70 rfl rfl (fun _ _ => ?_)
            refine zv_iald hB zd44_73 rfl rfl (zi_ix_ok c4).1 (zi_ix_ok c4).2 (fun _ _ => ?_)
            refine zv_con hB zd44_74 rfl ?_
            refine zv_cne hB zd44_76 rfl (fun hc => absurd hc (by omega)) (fun _ => ?_)
            refine zv_con hB zd44_79 rfl ?_
            refine zv_goto hB zd44_81 rfl ?_
            refine zv_ist hB zd44_105 rfl rfl rfl ?_
            refine zv_ald hB zd44_106 rfl rfl rfl ?_
            refine zv_dup hB zd44_107 rfl ?_
            refine zv_getf hB zd44_108 rfl rfl (fun _ _ => ?_)
            refine zv_con hB zd44_111 rfl ?_
            refine zv_addw hB zd44_112 ?_
            refine zv_putf hB zd44_113 rfl rfl (fun h => by cases h) rfl ?_
            refine zv_ald hB zd44_116 rfl rfl rfl ?_
            refine zv_ild hB zd44_117 rfl rfl ?_
            obtain ⟨r7, hr7, h⟩ := zi_bind h
            refine zv_cv hB (show zv_Fn _ _ _ zy_LawReader_readSum _ _ [.inr 0, .inl x1] [.inl f0, .inl (zi_w (f1 + 1)), .inl f2, .inr 2, .inl f4] [g0, g1, g2] none [.inl r7.1, .inl r7.2.1, .inl f2, .inr 2, .inl r7.2.2.1] [g0, r7.2.2.2.1, r7.2.2.2.2] from ih2 _ _ _ _ _ _ _ _ r7 hr7) zd44_118 zxt45 rfl (by show 6 + dp + 1 ≤ 6 + (dp + 1); omega) (by show 8 + (4 + 11) + 60 * (6 + dp) ≤ 60 * (6 + (dp + 1)); omega) rfl ?_
            refine zv_ald hB zd44_121 rfl rfl rfl ?_
            refine zv_getq hB zd44_122 rfl rfl rfl ?_
            refine zv_ild hB zd44_125 rfl rfl ?_
            refine zv_con hB zd44_126 rfl ?_
            obtain ⟨r8, hr8, h⟩ := zi_bind h
            refine zv_cv hB (zv_emq (va2 := [.inr 2, .inl 7, .inl 0]) (F := [.inl r7.1, .inl r7.2.1, .inl f2, .inr 2, .inl r7.2.2.1]) (F' := [.inl r7.1, .inl r7.2.1, .inl f2, .inr 2, .inl r8.2.1]) (G := [g0, r7.2.2.2.1, r7.2.2.2.2]) (G' := [g0, r8.2.2.1, r8.2.2.2]) (ρ := [2, 3, 4]) (φ := [4]) (ψ := [1, 2]) [none, none, none, none, some 0] [none, some 0, some 1] zyw_Law_addStep zyw_LawReader_readSum zye_LawReader_readSum (by decide +kernel) (zt_Law_addStep hr8) ⟨⟨_, rfl, fun _ => rfl⟩, trivial⟩ ⟨rfl, rfl, trivial⟩ rfl rfl rfl rfl rfl rfl rfl) zd44_127 zxt49 rfl (by show 0 + 1 ≤ 6 + (dp + 1); omega) (by show 8 + (3 + 11) + 60 * (0) ≤ 60 * (6 + (dp + 1)); omega) rfl ?_
            refine zv_pop hB zd44_130 rfl ?_
            refine zv_goto hB zd44_131 rfl ?_
            refine zv_wk hB (L' := [.inr 0, .inl x1, .inr 1000]) (F' := [.inl r7.1, .inl r7.2.1, .inl f2, .inr 2, .inl r8.2.1]) ⟨fun _ => rfl, fun _ => rfl, fun (h : zv_is (.inr 1000)) => (Nat.lt_irrefl 1000 h).elim, trivial⟩ ⟨fun _ => rfl, fun _ => rfl, fun _ => rfl, fun _ => rfl, fun _ => rfl, trivial⟩ ?_
            exact ih _ _ _ _ _ _ q h hK
          · rw [if_neg hc5] at h
            refine zv_ald hB zd44_37 rfl rfl rfl ?_
            refine zv_getr hB zd44_38 rfl ?_
            refine zv_ald hB zd44_41 rfl rfl rfl ?_
            refine zv_getf hB zd44_42 rfl rfl (fun _ _ => ?_)
            refine zv_iald hB zd44_45 rfl rfl (zi_ix_ok c4).1 (zi_ix_ok c4).2 (fun _ _ => ?_)
            refine zv_con hB zd44_46 rfl ?_
            refine zv_ceq hB zd44_48 rfl (fun hc9 => ?_) (fun hc9 => ?_)
            · rw [if_pos hc9] at h
              refine zv_ald hB zd44_65 rfl rfl rfl ?_
              refine zv_getr hB zd44_66 rfl ?_
              refine zv_ald hB zd44_69 rfl rfl rfl ?_
              refine zv_getf hB zd44_70 rfl rfl (fun _ _ => ?_)
              refine zv_iald hB zd44_73 rfl rfl (zi_ix_ok c4).1 (zi_ix_ok c4).2 (fun _ _ => ?_)
              refine zv_con hB zd44_74 rfl ?_
              refine zv_cne hB zd44_76 rfl (fun _ => ?_) (fun hc => absurd hc (by omega))
              refine zv_ald hB zd44_84 rfl rfl rfl ?_
              refine zv_getr hB zd44_85 rfl ?_
              refine zv_ald hB zd44_88 rfl rfl rfl ?_
              refine zv_getf hB zd44_89 rfl rfl (fun _ _ => ?_)
              refine zv_iald hB zd44_92 rfl rfl (zi_ix_ok c4).1 (zi_ix_ok c4).2 (fun _ _ => ?_)
              refine zv_con hB zd44_93 rfl ?_
              refine zv_cne hB zd44_95 rfl (fun hc => absurd hc (by omega)) (fun _ => ?_)
              refine zv_con hB zd44_98 rfl ?_
              refine zv_goto hB zd44_100 rfl ?_
              refine zv_ist hB zd44_105 rfl rfl rfl ?_
              refine zv_ald hB zd44_106 rfl rfl rfl ?_
              refine zv_dup hB zd44_107 rfl ?_
              refine zv_getf hB zd44_108 rfl rfl (fun _ _ => ?_)
              refine zv_con hB zd44_111 rfl ?_
              refine zv_addw hB zd44_112 ?_
              refine zv_putf hB zd44_113 rfl rfl (fun h => by cases h) rfl ?_
              refine zv_ald hB zd44_116 rfl rfl rfl ?_
              refine zv_ild hB zd44_117 rfl rfl ?_
              obtain ⟨r12, hr12, h⟩ := zi_bind h
              refine zv_cv hB (show zv_Fn _ _ _ zy_LawReader_readSum _ _ [.inr 0, .inl x1] [.inl f0, .inl (zi_w (f1 + 1)), .inl f2, .inr 2, .inl f4] [g0, g1, g2] none [.inl r12.1, .inl r12.2.1, .inl f2, .inr 2, .inl r12.2.2.1] [g0, r12.2.2.2.1, r12.2.2.2.2] from ih2 _ _ _ _ _ _ _ _ r12 hr12) zd44_118 zxt45 rfl (by show 6 + dp + 1 ≤ 6 + (dp + 1); omega) (by show 8 + (4 + 11) + 60 * (6 + dp) ≤ 60 * (6 + (dp + 1)); omega) rfl ?_
              refine zv_ald hB zd44_121 rfl rfl rfl ?_
              refine zv_getq hB zd44_122 rfl rfl rfl ?_
              refine zv_ild hB zd44_125 rfl rfl ?_
              refine zv_con hB zd44_126 rfl ?_
              obtain ⟨r13, hr13, h⟩ := zi_bind h
              refine zv_cv hB (zv_emq (va2 := [.inr 2, .inl 8, .inl 0]) (F := [.inl r12.1, .inl r12.2.1, .inl f2, .inr 2, .inl r12.2.2.1]) (F' := [.inl r12.1, .inl r12.2.1, .inl f2, .inr 2, .inl r13.2.1]) (G := [g0, r12.2.2.2.1, r12.2.2.2.2]) (G' := [g0, r13.2.2.1, r13.2.2.2]) (ρ := [2, 3, 4]) (φ := [4]) (ψ := [1, 2]) [none, none, none, none, some 0] [none, some 0, some 1] zyw_Law_addStep zyw_LawReader_readSum zye_LawReader_readSum (by decide +kernel) (zt_Law_addStep hr13) ⟨⟨_, rfl, fun _ => rfl⟩, trivial⟩ ⟨rfl, rfl, trivial⟩ rfl rfl rfl rfl rfl rfl rfl) zd44_127 zxt49 rfl (by show 0 + 1 ≤ 6 + (dp + 1); omega) (by show 8 + (3 + 11) + 60 * (0) ≤ 60 * (6 + (dp + 1)); omega) rfl ?_
              refine zv_pop hB zd44_130 rfl ?_
              refine zv_goto hB zd44_131 rfl ?_
              refine zv_wk hB (L' := [.inr 0, .inl x1, .inr 1000]) (F' := [.inl r12.1, .inl r12.2.1, .inl f2, .inr 2, .inl r13.2.1]) ⟨fun _ => rfl, fun _ => rfl, fun (h : zv_is (.inr 1000)) => (Nat.lt_irrefl 1000 h).elim, trivial⟩ ⟨fun _ => rfl, fun _ => rfl, fun _ => rfl, fun _ => rfl, fun _ => rfl, trivial⟩ ?_
              exact ih _ _ _ _ _ _ q h hK
            · rw [if_neg hc9] at h
              refine zv_ald hB zd44_51 rfl rfl rfl ?_
              refine zv_getr hB zd44_52 rfl ?_
              refine zv_ald hB zd44_55 rfl rfl rfl ?_
              refine zv_getf hB zd44_56 rfl rfl (fun _ _ => ?_)
              refine zv_iald hB zd44_59 rfl rfl (zi_ix_ok c4).1 (zi_ix_ok c4).2 (fun _ _ => ?_)
              refine zv_con hB zd44_60 rfl ?_
              refine zv_cne hB zd44_62 rfl (fun hc14 => ?_) (fun hc14 => ?_)
              · rw [if_neg hc14] at h
                have hq := Option.some.inj h
                subst hq
                refine zv_wk hB (L' := [.inr 1000, .inr 1000, .inr 1000]) (F' := [.inl f0, .inl f1, .inl f2, .inr 2, .inl f4]) ⟨fun (h : zv_is (.inr 1000)) => (Nat.lt_irrefl 1000 h).elim, fun (h : zv_is (.inr 1000)) => (Nat.lt_irrefl 1000 h).elim, fun (h : zv_is (.inr 1000)) => (Nat.lt_irrefl 1000 h).elim, trivial⟩ ⟨fun _ => rfl, fun _ => rfl, fun _ => rfl, fun _ => rfl, fun _ => rfl, trivial⟩ ?_
                exact hK
              · rw [if_pos hc14] at h
                refine zv_ald hB zd44_65 rfl rfl rfl ?_
                refine zv_getr hB zd44_66 rfl ?_
                refine zv_ald hB zd44_69 rfl rfl rfl ?_
                refine zv_getf hB zd44_70 rfl rfl (fun _ _ => ?_)
                refine zv_iald hB zd44_73 rfl rfl (zi_ix_ok c4).1 (zi_ix_ok c4).2 (fun _ _ => ?_)
                refine zv_con hB zd44_74 rfl ?_
                refine zv_cne hB zd44_76 rfl (fun _ => ?_) (fun hc => absurd hc (by omega))
                refine zv_ald hB zd44_84 rfl rfl rfl ?_
                refine zv_getr hB zd44_85 rfl ?_
                refine zv_ald hB zd44_88 rfl rfl rfl ?_
                refine zv_getf hB zd44_89 rfl rfl (fun _ _ => ?_)
                refine zv_iald hB zd44_92 rfl rfl (zi_ix_ok c4).1 (zi_ix_ok c4).2 (fun _ _ => ?_)
                refine zv_con hB zd44_93 rfl ?_
                refine zv_cne hB zd44_95 rfl (fun _ => ?_) (fun hc => absurd hc (by omega))
                refine zv_con hB zd44_103 rfl ?_
                refine zv_ist hB zd44_105 rfl rfl rfl ?_
                refine zv_ald hB zd44_106 rfl rfl rfl ?_
                refine zv_dup hB zd44_107 rfl ?_
                refine zv_getf hB zd44_108 rfl rfl (fun _ _ => ?_)
                refine zv_con hB zd44_111 rfl ?_
                refine zv_addw hB zd44_112 ?_
                refine zv_putf hB zd44_113 rfl rfl (fun h => by cases h) rfl ?_
                refine zv_ald hB zd44_116 rfl rfl rfl ?_
                refine zv_ild hB zd44_117 rfl rfl ?_
                obtain ⟨r17, hr17, h⟩ := zi_bind h
                refine zv_cv hB (show zv_Fn _ _ _ zy_LawReader_readSum _ _ [.inr 0, .inl x1] [.inl f0, .inl (zi_w (f1 + 1)), .inl f2, .inr 2, .inl f4] [g0, g1, g2] none [.inl r17.1, .inl r17.2.1, .inl f2, .inr 2, .inl r17.2.2.1] [g0, r17.2.2.2.1, r17.2.2.2.2] from ih2 _ _ _ _ _ _ _ _ r17 hr17) zd44_118 zxt45 rfl (by show 6 + dp + 1 ≤ 6 + (dp + 1); omega) (by show 8 + (4 + 11) + 60 * (6 + dp) ≤ 60 * (6 + (dp + 1)); omega) rfl ?_
                refine zv_ald hB zd44_121 rfl rfl rfl ?_
                refine zv_getq hB zd44_122 rfl rfl rfl ?_
                refine zv_ild hB zd44_125 rfl rfl ?_
                refine zv_con hB zd44_126 rfl ?_
                obtain ⟨r18, hr18, h⟩ := zi_bind h
                refine zv_cv hB (zv_emq (va2 := [.inr 2, .inl 9, .inl 0]) (F := [.inl r17.1, .inl r17.2.1, .inl f2, .inr 2, .inl r17.2.2.1]) (F' := [.inl r17.1, .inl r17.2.1, .inl f2, .inr 2, .inl r18.2.1]) (G := [g0, r17.2.2.2.1, r17.2.2.2.2]) (G' := [g0, r18.2.2.1, r18.2.2.2]) (ρ := [2, 3, 4]) (φ := [4]) (ψ := [1, 2]) [none, none, none, none, some 0] [none, some 0, some 1] zyw_Law_addStep zyw_LawReader_readSum zye_LawReader_readSum (by decide +kernel) (zt_Law_addStep hr18) ⟨⟨_, rfl, fun _ => rfl⟩, trivial⟩ ⟨rfl, rfl, trivial⟩ rfl rfl rfl rfl rfl rfl rfl) zd44_127 zxt49 rfl (by show 0 + 1 ≤ 6 + (dp + 1); omega) (by show 8 + (3 + 11) + 60 * (0) ≤ 60 * (6 + (dp + 1)); omega) rfl ?_
                refine zv_pop hB zd44_130 rfl ?_
                refine zv_goto hB zd44_131 rfl ?_
                refine zv_wk hB (L' := [.inr 0, .inl x1, .inr 1000]) (F' := [.inl r17.1, .inl r17.2.1, .inl f2, .inr 2, .inl r18.2.1]) ⟨fun _ => rfl, fun _ => rfl, fun (h : zv_is (.inr 1000)) => (Nat.lt_irrefl 1000 h).elim, trivial⟩ ⟨fun _ => rfl, fun _ => rfl, fun _ => rfl, fun _ => rfl, fun _ => rfl, trivial⟩ ?_
                exact ih _ _ _ _ _ _ q h hK
  unfold zm_LawReader_readTerm at h
  refine zv_ald hB zd44_0 rfl rfl rfl ?_
  refine zv_ild hB zd44_1 rfl rfl ?_
  obtain ⟨r1, hr1, h⟩ := zi_bind h
  refine zv_cv hB (show zv_Fn _ _ _ zy_LawReader_readSum _ _ [.inr 0, .inl x1] [.inl f0, .inl f1, .inl f2, .inr 2, .inl f4] [g0, g1, g2] none [.inl r1.1, .inl r1.2.1, .inl f2, .inr 2, .inl r1.2.2.1] [g0, r1.2.2.2.1, r1.2.2.2.2] from ih2 _ _ _ _ _ _ _ _ r1 hr1) zd44_2 zxt45 rfl (by show 6 + dp + 1 ≤ 6 + (dp + 1); omega) (by show 8 + (4 + 11) + 60 * (6 + dp) ≤ 60 * (6 + (dp + 1)); omega) rfl ?_
  obtain ⟨q19, hq19, h⟩ := zi_bind h
  refine l0 _ _ _ _ _ _ _ q19 hq19 ?_
  show good 134 [.inr 1000, .inr 1000, .inr 1000] [] [.inl q19.1, .inl q19.2.1, .inl f2, .inr 2, .inl q19.2.2.1] [g0, q19.2.2.2.1, q19.2.2.2.2]
  have hw := Option.some.inj h
  subst hw
  exact hvret _ _ _ _ zd44_134 trivial ⟨rfl, rfl, rfl⟩
/-! LawReader_readFactor (I)V -/
def zm_LawReader_readFactor (rc : Nat → Int → Int → Int → Int → Int → (Int → Int) → (Int → Int) → (Int → Int) → Option (Int × Int × Int × (Int → Int) × (Int → Int))) (x1 : Int) (f0 : Int) (f1 : Int) (f2 : Int) (f4 : Int) (g0 : (Int → Int)) (g1 : (Int → Int)) (g2 : (Int → Int)) : Option (Int × Int × Int × (Int → Int) × (Int → Int)) := if f0 = 0 then ((zf_LawReader_peek f1 f2 g0).bind fun r2 => (if r2 = 91 then (if x1 < 6 then ((rc 0 (zi_w (x1 + 1)) f0 (zi_w (f1 + 1)) f2 f4 g0 g1 g2).bind fun r14 => ((zf_LawReader_skip 93 r14.1 r14.2.1 f2 g0).bind fun r15 => (some (r15.1, r15.2, r14.2.2.1, r14.2.2.2.1, r14.2.2.2.2)))) else ((zf_LawReader_fail 5 f0 f1).bind fun r16 => (some (r16, f1, f4, g1, g2)))) else ((zf_LawReader_isDigit r2).bind fun r4 => (if r4 = 0 then (if r2 = (-1) then ((zf_LawReader_fail 1 f0 f1).bind fun r11 => (some (r11, f1, f4, g1, g2))) else (if (zi_letter (zi_ch r2)) = (-1) then ((zf_LawReader_fail 1 f0 f1).bind fun r9 => (some (r9, f1, f4, g1, g2))) else ((zf_Law_addStep 1 (zi_letter (zi_ch r2)) f4 g1 g2).bind fun r8 => (some (f0, (zi_w (f1 + 1)), r8.2.1, r8.2.2.1, r8.2.2.2))))) else ((zf_LawReader_readNumber f1 f2 f4 f0 g0 g1 g2).bind fun r12 => (some (r12.2.2.1, r12.1, r12.2.1, r12.2.2.2.1, r12.2.2.2.2))))))) else (some (f0, f1, f4, g1, g2))
theorem zd45_0 : decode zxm45.2.1 0 = .ok (.aload_n 0, 1) := by decide +kernel
theorem zd45_1 : decode zxm45.2.1 1 = .ok (.getfield 18, 3) := by decide +kernel
theorem zd45_4 : decode zxm45.2.1 4 = .ok (.ifCond .eq 4, 3) := by decide +kernel
theorem zd45_7 : decode zxm45.2.1 7 = .ok (.return_, 1) := by decide +kernel
theorem zd45_8 : decode zxm45.2.1 8 = .ok (.aload_n 0, 1) := by decide +kernel
theorem zd45_9 : decode zxm45.2.1 9 = .ok (.invokevirtual 53, 3) := by decide +kernel
theorem zd45_12 : decode zxm45.2.1 12 = .ok (.istore_n 2, 1) := by decide +kernel
theorem zd45_13 : decode zxm45.2.1 13 = .ok (.iload_n 2, 1) := by decide +kernel
theorem zd45_14 : decode zxm45.2.1 14 = .ok (.bipush 91, 2) := by decide +kernel
theorem zd45_16 : decode zxm45.2.1 16 = .ok (.if_icmp .ne 41, 3) := by decide +kernel
theorem zd45_19 : decode zxm45.2.1 19 = .ok (.iload_n 1, 1) := by decide +kernel
theorem zd45_20 : decode zxm45.2.1 20 = .ok (.bipush 6, 2) := by decide +kernel
theorem zd45_22 : decode zxm45.2.1 22 = .ok (.if_icmp .lt 9, 3) := by decide +kernel
theorem zd45_25 : decode zxm45.2.1 25 = .ok (.aload_n 0, 1) := by decide +kernel
theorem zd45_26 : decode zxm45.2.1 26 = .ok (.iconst 5, 1) := by decide +kernel
theorem zd45_27 : decode zxm45.2.1 27 = .ok (.invokevirtual 57, 3) := by decide +kernel
theorem zd45_30 : decode zxm45.2.1 30 = .ok (.return_, 1) := by decide +kernel
theorem zd45_31 : decode zxm45.2.1 31 = .ok (.aload_n 0, 1) := by decide +kernel
theorem zd45_32 : decode zxm45.2.1 32 = .ok (.dup, 1) := by decide +kernel
theorem zd45_33 : decode zxm45.2.1 33 = .ok (.getfield 15, 3) := by decide +kernel
theorem zd45_36 : decode zxm45.2.1 36 = .ok (.iconst 1, 1) := by decide +kernel
theorem zd45_37 : decode zxm45.2.1 37 = .ok (.iadd, 1) := by decide +kernel
theorem zd45_38 : decode zxm45.2.1 38 = .ok (.putfield 15, 3) := by decide +kernel
theorem zd45_41 : decode zxm45.2.1 41 = .ok (.aload_n 0, 1) := by decide +kernel
theorem zd45_42 : decode zxm45.2.1 42 = .ok (.iload_n 1, 1) := by decide +kernel
theorem zd45_43 : decode zxm45.2.1 43 = .ok (.iconst 1, 1) := by decide +kernel
theorem zd45_44 : decode zxm45.2.1 44 = .ok (.iadd, 1) := by decide +kernel
theorem zd45_45 : decode zxm45.2.1 45 = .ok (.invokevirtual 63, 3) := by decide +kernel
theorem zd45_48 : decode zxm45.2.1 48 = .ok (.aload_n 0, 1) := by decide +kernel
theorem zd45_49 : decode zxm45.2.1 49 = .ok (.bipush 93, 2) := by decide +kernel
theorem zd45_51 : decode zxm45.2.1 51 = .ok (.invokevirtual 43, 3) := by decide +kernel
theorem zd45_54 : decode zxm45.2.1 54 = .ok (.goto 65, 3) := by decide +kernel
theorem zd45_57 : decode zxm45.2.1 57 = .ok (.iload_n 2, 1) := by decide +kernel
theorem zd45_58 : decode zxm45.2.1 58 = .ok (.invokestatic 94, 3) := by decide +kernel
theorem zd45_61 : decode zxm45.2.1 61 = .ok (.ifCond .eq 10, 3) := by decide +kernel
theorem zd45_64 : decode zxm45.2.1 64 = .ok (.aload_n 0, 1) := by decide +kernel
theorem zd45_65 : decode zxm45.2.1 65 = .ok (.invokevirtual 98, 3) := by decide +kernel
theorem zd45_68 : decode zxm45.2.1 68 = .ok (.goto 51, 3) := by decide +kernel
theorem zd45_71 : decode zxm45.2.1 71 = .ok (.iload_n 2, 1) := by decide +kernel
theorem zd45_72 : decode zxm45.2.1 72 = .ok (.iconst (-1), 1) := by decide +kernel
theorem zd45_73 : decode zxm45.2.1 73 = .ok (.if_icmp .ne 7, 3) := by decide +kernel
theorem zd45_76 : decode zxm45.2.1 76 = .ok (.iconst (-1), 1) := by decide +kernel
theorem zd45_77 : decode zxm45.2.1 77 = .ok (.goto 10, 3) := by decide +kernel
theorem zd45_80 : decode zxm45.2.1 80 = .ok (.ldc 101, 2) := by decide +kernel
theorem zd45_82 : decode zxm45.2.1 82 = .ok (.iload_n 2, 1) := by decide +kernel
theorem zd45_83 : decode zxm45.2.1 83 = .ok (.i2c, 1) := by decide +kernel
theorem zd45_84 : decode zxm45.2.1 84 = .ok (.invokevirtual 103, 3) := by decide +kernel
theorem zd45_87 : decode zxm45.2.1 87 = .ok (.istore_n 3, 1) := by decide +kernel
theorem zd45_88 : decode zxm45.2.1 88 = .ok (.iload_n 3, 1) := by decide +kernel
theorem zd45_89 : decode zxm45.2.1 89 = .ok (.iconst (-1), 1) := by decide +kernel
theorem zd45_90 : decode zxm45.2.1 90 = .ok (.if_icmp .ne 9, 3) := by decide +kernel
theorem zd45_93 : decode zxm45.2.1 93 = .ok (.aload_n 0, 1) := by decide +kernel
theorem zd45_94 : decode zxm45.2.1 94 = .ok (.iconst 1, 1) := by decide +kernel
theorem zd45_95 : decode zxm45.2.1 95 = .ok (.invokevirtual 57, 3) := by decide +kernel
theorem zd45_98 : decode zxm45.2.1 98 = .ok (.return_, 1) := by decide +kernel
theorem zd45_99 : decode zxm45.2.1 99 = .ok (.aload_n 0, 1) := by decide +kernel
theorem zd45_100 : decode zxm45.2.1 100 = .ok (.dup, 1) := by decide +kernel
theorem zd45_101 : decode zxm45.2.1 101 = .ok (.getfield 15, 3) := by decide +kernel
theorem zd45_104 : decode zxm45.2.1 104 = .ok (.iconst 1, 1) := by decide +kernel
theorem zd45_105 : decode zxm45.2.1 105 = .ok (.iadd, 1) := by decide +kernel
theorem zd45_106 : decode zxm45.2.1 106 = .ok (.putfield 15, 3) := by decide +kernel
theorem zd45_109 : decode zxm45.2.1 109 = .ok (.aload_n 0, 1) := by decide +kernel
theorem zd45_110 : decode zxm45.2.1 110 = .ok (.getfield 25, 3) := by decide +kernel
theorem zd45_113 : decode zxm45.2.1 113 = .ok (.iconst 1, 1) := by decide +kernel
theorem zd45_114 : decode zxm45.2.1 114 = .ok (.iload_n 3, 1) := by decide +kernel
theorem zd45_115 : decode zxm45.2.1 115 = .ok (.invokevirtual 76, 3) := by decide +kernel
theorem zd45_118 : decode zxm45.2.1 118 = .ok (.pop, 1) := by decide +kernel
theorem zd45_119 : decode zxm45.2.1 119 = .ok (.return_, 1) := by decide +kernel
theorem zts_LawReader_readFactor {dp : Nat} {rc : Nat → Int → Int → Int → Int → Int → (Int → Int) → (Int → Int) → (Int → Int) → Option (Int × Int × Int × (Int → Int) × (Int → Int))} (ih0 : ∀ (x1 : Int) (f0 : Int) (f1 : Int) (f2 : Int) (f4 : Int) (g0 : (Int → Int)) (g1 : (Int → Int)) (g2 : (Int → Int)) (o : Int × Int × Int × (Int → Int) × (Int → Int)), rc 0 x1 f0 f1 f2 f4 g0 g1 g2 = some o → zv_Fn z_TB z_cl z_KX zy_LawReader_readSum zxm43 (6 + dp, 60 * (6 + dp)) [.inr 0, .inl x1] [.inl f0, .inl f1, .inl f2, .inr 2, .inl f4] [g0, g1, g2] none [.inl o.1, .inl o.2.1, .inl f2, .inr 2, .inl o.2.2.1] [g0, o.2.2.2.1, o.2.2.2.2]) (ih1 : ∀ (x1 : Int) (f0 : Int) (f1 : Int) (f2 : Int) (f4 : Int) (g0 : (Int → Int)) (g1 : (Int → Int)) (g2 : (Int → Int)) (o : Int × Int × Int × (Int → Int) × (Int → Int)), rc 1 x1 f0 f1 f2 f4 g0 g1 g2 = some o → zv_Fn z_TB z_cl z_KX zy_LawReader_readSum zxm44 (6 + dp, 60 * (6 + dp)) [.inr 0, .inl x1] [.inl f0, .inl f1, .inl f2, .inr 2, .inl f4] [g0, g1, g2] none [.inl o.1, .inl o.2.1, .inl f2, .inr 2, .inl o.2.2.1] [g0, o.2.2.2.1, o.2.2.2.2]) (ih2 : ∀ (x1 : Int) (f0 : Int) (f1 : Int) (f2 : Int) (f4 : Int) (g0 : (Int → Int)) (g1 : (Int → Int)) (g2 : (Int → Int)) (o : Int × Int × Int × (Int → Int) × (Int → Int)), rc 2 x1 f0 f1 f2 f4 g0 g1 g2 = some o → zv_Fn z_TB z_cl z_KX zy_LawReader_readSum zxm45 (6 + dp, 60 * (6 + dp)) [.inr 0, .inl x1] [.inl f0, .inl f1, .inl f2, .inr 2, .inl f4] [g0, g1, g2] none [.inl o.1, .inl o.2.1, .inl f2, .inr 2, .inl o.2.2.1] [g0, o.2.2.2.1, o.2.2.2.2]) {x1 : Int} {f0 : Int} {f1 : Int} {f2 : Int} {f4 : Int} {g0 : (Int → Int)} {g1 : (Int → Int)} {g2 : (Int → Int)} {o : Int × Int × Int × (Int → Int) × (Int → Int)} (h : zm_LawReader_readFactor rc x1 f0 f1 f2 f4 g0 g1 g2 = some o) : zv_Fn z_TB z_cl z_KX zy_LawReader_readSum zxm45 (6 + (dp + 1), 60 * (6 + (dp + 1))) [.inr 0, .inl x1] [.inl f0, .inl f1, .inl f2, .inr 2, .inl f4] [g0, g1, g2] none [.inl o.1, .inl o.2.1, .inl f2, .inr 2, .inl o.2.2.1] [g0, o.2.2.2.1, o.2.2.2.2] := zv_meth (K := (z_KF3, z_KC3, z_KL3, z_KT3, [], [], [], none)) (FT := z_FT) (MT := z_MT) (n := 2) zxp45 (z_ks3 _ (fun _ h => List.mem_cons_of_mem _ h) _ _ _ _ (fun j r h _ => by cases h)) (fun _ _ => zs_KX_p) zyw_LawReader_readSum (fun va F G h => by obtain ⟨rfl, _⟩ := h; rfl) (fun va F G h => by obtain ⟨rfl, _⟩ := h; rfl) rfl fun good va F G hB hret hvret hP => by
  obtain ⟨rfl, rfl, rfl⟩ := hP
  unfold zm_LawReader_readFactor at h
  refine zv_ald hB zd45_0 rfl rfl rfl ?_
  refine zv_getf hB zd45_1 rfl rfl (fun _ _ => ?_)
  refine zv_zeq hB zd45_4 rfl (fun hc1 => ?_) (fun hc1 => ?_)
  · rw [if_pos hc1] at h
    refine zv_ald hB zd45_8 rfl rfl rfl ?_
    obtain ⟨r2, hr2, h⟩ := zi_bind h
    refine zv_cv hB (zv_emq (va2 := [.inr 0]) (F := [.inl f0, .inl f1, .inl f2, .inr 2, .inl f4]) (F' := [.inl f0, .inl f1, .inl f2, .inr 2, .inl f4]) (G := [g0, g1, g2]) (G' := [g0, g1, g2]) (ρ := [0, 1]) (φ := [1, 2]) (ψ := [0]) [none, some 0, some 1, none, none] [some 0, none, none] zyw_LawReader_peek zyw_LawReader_readSum zye_LawReader_readSum (by decide +kernel) (zt_LawReader_peek hr2) ⟨⟨_, rfl, fun _ => rfl⟩, ⟨_, rfl, fun _ => rfl⟩, trivial⟩ ⟨rfl, trivial⟩ rfl rfl rfl rfl rfl rfl rfl) zd45_9 zxt40 rfl (by show 0 + 1 ≤ 6 + (dp + 1); omega) (by show 8 + (1 + 11) + 60 * (0) ≤ 60 * (6 + (dp + 1)); omega) rfl ?_
    refine zv_ist hB zd45_12 rfl rfl rfl ?_
    refine zv_ild hB zd45_13 rfl rfl ?_
    refine zv_con hB zd45_14 rfl ?_
    refine zv_cne hB zd45_16 rfl (fun hc3 => ?_) (fun hc3 => ?_)
    · rw [if_neg hc3] at h
      refine zv_ild hB zd45_57 rfl rfl ?_
      obtain ⟨r4, hr4, h⟩ := zi_bind h
      refine zv_cs hB (zv_emq (va2 := [.inl r2]) (F := [.inl f0, .inl f1, .inl f2, .inr 2, .inl f4]) (F' := [.inl f0, .inl f1, .inl f2, .inr 2, .inl f4]) (G := [g0, g1, g2]) (G' := [g0, g1, g2]) (ρ := []) (φ := []) (ψ := []) [none, none, none, none, none] [none, none, none] zyw_LawReader_isDigit zyw_LawReader_readSum zye_LawReader_readSum (by decide +kernel) (zt_LawReader_isDigit hr4) trivial trivial rfl rfl rfl rfl rfl rfl rfl) zd45_58 zxt47 rfl (by show 0 + 1 ≤ 6 + (dp + 1); omega) (by show 8 + (1 + 11) + 60 * (0) ≤ 60 * (6 + (dp + 1)); omega) rfl ?_
      refine zv_zeq hB zd45_61 rfl (fun hc5 => ?_) (fun hc5 => ?_)
      · rw [if_pos hc5] at h
        refine zv_ild hB zd45_71 rfl rfl ?_
        refine zv_con hB zd45_72 rfl ?_
        refine zv_cne hB zd45_73 rfl (fun hc6 => ?_) (fun hc6 => ?_)
        · rw [if_neg hc6] at h
          refine zv_ldcs hB zd45_80 ?_
          refine zv_ild hB zd45_82 rfl rfl ?_
          refine zv_i2c hB zd45_83 ?_
          refine zv_letter hB zyw_LawReader_readSum rfl rfl zd45_84 (by show 6 ≤ 6 + (dp + 1); omega) (by show 360 ≤ 60 * (6 + (dp + 1)); omega) ?_
          refine zv_ist hB zd45_87 rfl rfl rfl ?_
          refine zv_ild hB zd45_88 rfl rfl ?_
          refine zv_con hB zd45_89 rfl ?_
          refine zv_cne hB zd45_90 rfl (fun hc7 => ?_) (fun hc7 => ?_)
          · rw [if_neg hc7] at h
            refine zv_ald hB zd45_99 rfl rfl rfl ?_
            refine zv_dup hB zd45_100 rfl ?_
            refine zv_getf hB zd45_101 rfl rfl (fun _ _ => ?_)
            refine zv_con hB zd45_104 rfl ?_
            refine zv_addw hB zd45_105 ?_
            refine zv_putf hB zd45_106 rfl rfl (fun h => by cases h) rfl ?_
            refine zv_ald hB zd45_109 rfl rfl rfl ?_
            refine zv_getq hB zd45_110 rfl rfl rfl ?_
            refine zv_con hB zd45_113 rfl ?_
            refine zv_ild hB zd45_114 rfl rfl ?_
            obtain ⟨r8, hr8, h⟩ := zi_bind h
            refine zv_cv hB (zv_emq (va2 := [.inr 2, .inl 1, .inl (zi_letter (zi_ch r2))]) (F := [.inl f0, .inl (zi_w (f1 + 1)), .inl f2, .inr 2, .inl f4]) (F' := [.inl f0, .inl (zi_w (f1 + 1)), .inl f2, .inr 2, .inl r8.2.1]) (G := [g0, g1, g2]) (G' := [g0, r8.2.2.1, r8.2.2.2]) (ρ := [2, 3, 4]) (φ := [4]) (ψ := [1, 2]) [none, none, none, none, some 0] [none, some 0, some 1] zyw_Law_addStep zyw_LawReader_readSum zye_LawReader_readSum (by decide +kernel) (zt_Law_addStep hr8) ⟨⟨_, rfl, fun _ => rfl⟩, trivial⟩ ⟨rfl, rfl, trivial⟩ rfl rfl rfl rfl rfl rfl rfl) zd45_115 zxt49 rfl (by show 0 + 1 ≤ 6 + (dp + 1); omega) (by show 8 + (3 + 11) + 60 * (0) ≤ 60 * (6 + (dp + 1)); omega) rfl ?_
            refine zv_pop hB zd45_118 rfl ?_
            have hw := Option.some.inj h
            subst hw
            exact hvret _ _ _ _ zd45_119 trivial ⟨rfl, rfl, rfl⟩
          · rw [if_pos hc7] at h
            refine zv_ald hB zd45_93 rfl rfl rfl ?_
            refine zv_con hB zd45_94 rfl ?_
            obtain ⟨r9, hr9, h⟩ := zi_bind h
            refine zv_cv hB (zv_emq (va2 := [.inr 0, .inl 1]) (F := [.inl f0, .inl f1, .inl f2, .inr 2, .inl f4]) (F' := [.inl r9, .inl f1, .inl f2, .inr 2, .inl f4]) (G := [g0, g1, g2]) (G' := [g0, g1, g2]) (ρ := [0]) (φ := [0, 1]) (ψ := []) [some 0, some 1, none, none, none] [none, none, none] zyw_LawReader_fail zyw_LawReader_readSum zye_LawReader_readSum (by decide +kernel) (zt_LawReader_fail hr9) ⟨⟨_, rfl, fun _ => rfl⟩, ⟨_, rfl, fun _ => rfl⟩, trivial⟩ trivial rfl rfl rfl rfl rfl rfl rfl) zd45_95 zxt41 rfl (by show 1 + 1 ≤ 6 + (dp + 1); omega) (by show 8 + (2 + 11) + 60 * (1) ≤ 60 * (6 + (dp + 1)); omega) rfl ?_
            have hw := Option.some.inj h
            subst hw
            exact hvret _ _ _ _ zd45_98 trivial ⟨rfl, rfl, rfl⟩
        · rw [if_pos hc6] at h
          refine zv_con hB zd45_76 rfl ?_
          refine zv_goto hB zd45_77 rfl ?_
          refine zv_ist hB zd45_87 rfl rfl rfl ?_
          refine zv_ild hB zd45_88 rfl rfl ?_
          refine zv_con hB zd45_89 rfl ?_
          refine zv_cne hB zd45_90 rfl (fun hc => absurd hc (by decide)) (fun _ => ?_)
          refine zv_ald hB zd45_93 rfl rfl rfl ?_
          refine zv_con hB zd45_94 rfl ?_
          obtain ⟨r11, hr11, h⟩ := zi_bind h
          refine zv_cv hB (zv_emq (va2 := [.inr 0, .inl 1]) (F := [.inl f0, .inl f1, .inl f2, .inr 2, .inl f4]) (F' := [.inl r11, .inl f1, .inl f2, .inr 2, .inl f4]) (G := [g0, g1, g2]) (G' := [g0, g1, g2]) (ρ := [0]) (φ := [0, 1]) (ψ := []) [some 0, some 1, none, none, none] [none, none, none] zyw_LawReader_fail zyw_LawReader_readSum zye_LawReader_readSum (by decide +kernel) (zt_LawReader_fail hr11) ⟨⟨_, rfl, fun _ => rfl⟩, ⟨_, rfl, fun _ => rfl⟩, trivial⟩ trivial rfl rfl rfl rfl rfl rfl rfl) zd45_95 zxt41 rfl (by show 1 + 1 ≤ 6 + (dp + 1); omega) (by show 8 + (2 + 11) + 60 * (1) ≤ 60 * (6 + (dp + 1)); omega) rfl ?_
          have hw := Option.some.inj h
          subst hw
          exact hvret _ _ _ _ zd45_98 trivial ⟨rfl, rfl, rfl⟩
      · rw [if_neg hc5] at h
        refine zv_ald hB zd45_64 rfl rfl rfl ?_
        obtain ⟨r12, hr12, h⟩ := zi_bind h
        refine zv_cv hB (zv_emq (va2 := [.inr 0]) (F := [.inl f0, .inl f1, .inl f2, .inr 2, .inl f4]) (F' := [.inl r12.2.2.1, .inl r12.1, .inl f2, .inr 2, .inl r12.2.1]) (G := [g0, g1, g2]) (G' := [g0, r12.2.2.2.1, r12.2.2.2.2]) (ρ := [0, 1, 2, 3, 4]) (φ := [1, 2, 3, 4, 0]) (ψ := [0, 1, 2]) [some 4, some 0, some 1, some 2, some 3] [some 0, some 1, some 2] zyw_LawReader_readNumber zyw_LawReader_readSum zye_LawReader_readSum (by decide +kernel) (zt_LawReader_readNumber hr12) ⟨⟨_, rfl, fun _ => rfl⟩, ⟨_, rfl, fun _ => rfl⟩, ⟨_, rfl, fun _ => rfl⟩, ⟨_, rfl, fun _ => rfl⟩, ⟨_, rfl, fun _ => rfl⟩, trivial⟩ ⟨rfl, rfl, rfl, trivial⟩ rfl rfl rfl rfl rfl rfl rfl) zd45_65 zxt48 rfl (by show 2 + 1 ≤ 6 + (dp + 1); omega) (by show 8 + (3 + 11) + 60 * (2) ≤ 60 * (6 + (dp + 1)); omega) rfl ?_
        refine zv_goto hB zd45_68 rfl ?_
        have hw := Option.some.inj h
        subst hw
        exact hvret _ _ _ _ zd45_119 trivial ⟨rfl, rfl, rfl⟩
    · rw [if_pos hc3] at h
      refine zv_ild hB zd45_19 rfl rfl ?_
      refine zv_con hB zd45_20 rfl ?_
      refine zv_clt hB zd45_22 rfl (fun hc13 => ?_) (fun hc13 => ?_)
      · rw [if_pos hc13] at h
        refine zv_ald hB zd45_31 rfl rfl rfl ?_
        refine zv_dup hB zd45_32 rfl ?_
        refine zv_getf hB zd45_33 rfl rfl (fun _ _ => ?_)
        refine zv_con hB zd45_36 rfl ?_
        refine zv_addw hB zd45_37 ?_
        refine zv_putf hB zd45_38 rfl rfl (fun h => by cases h) rfl ?_
        refine zv_ald hB zd45_41 rfl rfl rfl ?_
        refine zv_ild hB zd45_42 rfl rfl ?_
        refine zv_con hB zd45_43 rfl ?_
        refine zv_addw hB zd45_44 ?_
        obtain ⟨r14, hr14, h⟩ := zi_bind h
        refine zv_cv hB (show zv_Fn _ _ _ zy_LawReader_readSum _ _ [.inr 0, .inl (zi_w (x1 + 1))] [.inl f0, .inl (zi_w (f1 + 1)), .inl f2, .inr 2, .inl f4] [g0, g1, g2] none [.inl r14.1, .inl r14.2.1, .inl f2, .inr 2, .inl r14.2.2.1] [g0, r14.2.2.2.1, r14.2.2.2.2] from ih0 _ _ _ _ _ _ _ _ r14 hr14) zd45_45 zxt43 rfl (by show 6 + dp + 1 ≤ 6 + (dp + 1); omega) (by show 8 + (3 + 11) + 60 * (6 + dp) ≤ 60 * (6 + (dp + 1)); omega) rfl ?_
        refine zv_ald hB zd45_48 rfl rfl rfl ?_
        refine zv_con hB zd45_49 rfl ?_
        obtain ⟨r15, hr15, h⟩ := zi_bind h
        refine zv_cv hB (zv_emq (va2 := [.inr 0, .inl 93]) (F := [.inl r14.1, .inl r14.2.1, .inl f2, .inr 2, .inl r14.2.2.1]) (F' := [.inl r15.1, .inl r15.2, .inl f2, .inr 2, .inl r14.2.2.1]) (G := [g0, r14.2.2.2.1, r14.2.2.2.2]) (G' := [g0, r14.2.2.2.1, r14.2.2.2.2]) (ρ := [0, 1]) (φ := [0, 1, 2]) (ψ := [0]) [some 0, some 1, some 2, none, none] [some 0, none, none] zyw_LawReader_skip zyw_LawReader_readSum zye_LawReader_readSum (by decide +kernel) (zt_LawReader_skip hr15) ⟨⟨_, rfl, fun _ => rfl⟩, ⟨_, rfl, fun _ => rfl⟩, ⟨_, rfl, fun _ => rfl⟩, trivial⟩ ⟨rfl, trivial⟩ rfl rfl rfl rfl rfl rfl rfl) zd45_51 zxt46 rfl (by show 2 + 1 ≤ 6 + (dp + 1); omega) (by show 8 + (2 + 11) + 60 * (2) ≤ 60 * (6 + (dp + 1)); omega) rfl ?_
        refine zv_goto hB zd45_54 rfl ?_
        have hw := Option.some.inj h
        subst hw
        exact hvret _ _ _ _ zd45_119 trivial ⟨rfl, rfl, rfl⟩
      · rw [if_neg (Int.not_lt.mpr hc13)] at h
        refine zv_ald hB zd45_25 rfl rfl rfl ?_
        refine zv_con hB zd45_26 rfl ?_
        obtain ⟨r16, hr16, h⟩ := zi_bind h
        refine zv_cv hB (zv_emq (va2 := [.inr 0, .inl 5]) (F := [.inl f0, .inl f1, .inl f2, .inr 2, .inl f4]) (F' := [.inl r16, .inl f1, .inl f2, .inr 2, .inl f4]) (G := [g0, g1, g2]) (G' := [g0, g1, g2]) (ρ := [0]) (φ := [0, 1]) (ψ := []) [some 0, some 1, none, none, none] [none, none, none] zyw_LawReader_fail zyw_LawReader_readSum zye_LawReader_readSum (by decide +kernel) (zt_LawReader_fail hr16) ⟨⟨_, rfl, fun _ => rfl⟩, ⟨_, rfl, fun _ => rfl⟩, trivial⟩ trivial rfl rfl rfl rfl rfl rfl rfl) zd45_27 zxt41 rfl (by show 1 + 1 ≤ 6 + (dp + 1); omega) (by show 8 + (2 + 11) + 60 * (1) ≤ 60 * (6 + (dp + 1)); omega) rfl ?_
        have hw := Option.some.inj h
        subst hw
        exact hvret _ _ _ _ zd45_30 trivial ⟨rfl, rfl, rfl⟩
  · rw [if_neg hc1] at h
    have hw := Option.some.inj h
    subst hw
    exact hvret _ _ _ _ zd45_7 trivial ⟨rfl, rfl, rfl⟩
def zg_LawReader_readSum : Nat → Nat → Int → Int → Int → Int → Int → (Int → Int) → (Int → Int) → (Int → Int) → Option (Int × Int × Int × (Int → Int) × (Int → Int))
  | 0, _, _, _, _, _, _, _, _, _ => none
  | n + 1, 0, x1, f0, f1, f2, f4, g0, g1, g2 => zm_LawReader_readSum (zg_LawReader_readSum n) x1 f0 f1 f2 f4 g0 g1 g2
  | n + 1, 1, x1, f0, f1, f2, f4, g0, g1, g2 => zm_LawReader_readTerm (zg_LawReader_readSum n) x1 f0 f1 f2 f4 g0 g1 g2
  | n + 1, _, x1, f0, f1, f2, f4, g0, g1, g2 => zm_LawReader_readFactor (zg_LawReader_readSum n) x1 f0 f1 f2 f4 g0 g1 g2
theorem ztg_LawReader_readSum : ∀ n : Nat, (∀ (x1 : Int) (f0 : Int) (f1 : Int) (f2 : Int) (f4 : Int) (g0 : (Int → Int)) (g1 : (Int → Int)) (g2 : (Int → Int)) (o : Int × Int × Int × (Int → Int) × (Int → Int)), zg_LawReader_readSum n 0 x1 f0 f1 f2 f4 g0 g1 g2 = some o → zv_Fn z_TB z_cl z_KX zy_LawReader_readSum zxm43 (6 + n, 60 * (6 + n)) [.inr 0, .inl x1] [.inl f0, .inl f1, .inl f2, .inr 2, .inl f4] [g0, g1, g2] none [.inl o.1, .inl o.2.1, .inl f2, .inr 2, .inl o.2.2.1] [g0, o.2.2.2.1, o.2.2.2.2]) ∧ (∀ (x1 : Int) (f0 : Int) (f1 : Int) (f2 : Int) (f4 : Int) (g0 : (Int → Int)) (g1 : (Int → Int)) (g2 : (Int → Int)) (o : Int × Int × Int × (Int → Int) × (Int → Int)), zg_LawReader_readSum n 1 x1 f0 f1 f2 f4 g0 g1 g2 = some o → zv_Fn z_TB z_cl z_KX zy_LawReader_readSum zxm44 (6 + n, 60 * (6 + n)) [.inr 0, .inl x1] [.inl f0, .inl f1, .inl f2, .inr 2, .inl f4] [g0, g1, g2] none [.inl o.1, .inl o.2.1, .inl f2, .inr 2, .inl o.2.2.1] [g0, o.2.2.2.1, o.2.2.2.2]) ∧ (∀ (x1 : Int) (f0 : Int) (f1 : Int) (f2 : Int) (f4 : Int) (g0 : (Int → Int)) (g1 : (Int → Int)) (g2 : (Int → Int)) (o : Int × Int × Int × (Int → Int) × (Int → Int)), zg_LawReader_readSum n 2 x1 f0 f1 f2 f4 g0 g1 g2 = some o → zv_Fn z_TB z_cl z_KX zy_LawReader_readSum zxm45 (6 + n, 60 * (6 + n)) [.inr 0, .inl x1] [.inl f0, .inl f1, .inl f2, .inr 2, .inl f4] [g0, g1, g2] none [.inl o.1, .inl o.2.1, .inl f2, .inr 2, .inl o.2.2.1] [g0, o.2.2.2.1, o.2.2.2.2]) := by
  intro n
  induction n with
  | zero => exact ⟨fun _ _ _ _ _ _ _ _ o h => absurd (show none = some o from h) (fun h => by cases h), fun _ _ _ _ _ _ _ _ o h => absurd (show none = some o from h) (fun h => by cases h), fun _ _ _ _ _ _ _ _ o h => absurd (show none = some o from h) (fun h => by cases h)⟩
  | succ n ih =>
    obtain ⟨ih0, ih1, ih2⟩ := ih
    exact ⟨fun _ _ _ _ _ _ _ _ o h => zts_LawReader_readSum (rc := zg_LawReader_readSum n) ih0 ih1 ih2 h, fun _ _ _ _ _ _ _ _ o h => zts_LawReader_readTerm (rc := zg_LawReader_readSum n) ih0 ih1 ih2 h, fun _ _ _ _ _ _ _ _ o h => zts_LawReader_readFactor (rc := zg_LawReader_readSum n) ih0 ih1 ih2 h⟩
def zf_LawReader_readSum (x1 : Int) (f0 : Int) (f1 : Int) (f2 : Int) (f4 : Int) (g0 : (Int → Int)) (g1 : (Int → Int)) (g2 : (Int → Int)) : Option (Int × Int × Int × (Int → Int) × (Int → Int)) := zg_LawReader_readSum 30 0 x1 f0 f1 f2 f4 g0 g1 g2
theorem zt_LawReader_readSum {x1 : Int} {f0 : Int} {f1 : Int} {f2 : Int} {f4 : Int} {g0 : (Int → Int)} {g1 : (Int → Int)} {g2 : (Int → Int)} {o : Int × Int × Int × (Int → Int) × (Int → Int)} (h : zf_LawReader_readSum x1 f0 f1 f2 f4 g0 g1 g2 = some o) : zv_Fn z_TB z_cl z_KX zy_LawReader_readSum zxm43 (36, 2160) [.inr 0, .inl x1] [.inl f0, .inl f1, .inl f2, .inr 2, .inl f4] [g0, g1, g2] none [.inl o.1, .inl o.2.1, .inl f2, .inr 2, .inl o.2.2.1] [g0, o.2.2.2.1, o.2.2.2.2] := (ztg_LawReader_readSum 30).1 _ _ _ _ _ _ _ _ o h
def zf_LawReader_readTerm (x1 : Int) (f0 : Int) (f1 : Int) (f2 : Int) (f4 : Int) (g0 : (Int → Int)) (g1 : (Int → Int)) (g2 : (Int → Int)) : Option (Int × Int × Int × (Int → Int) × (Int → Int)) := zg_LawReader_readSum 30 1 x1 f0 f1 f2 f4 g0 g1 g2
theorem zt_LawReader_readTerm {x1 : Int} {f0 : Int} {f1 : Int} {f2 : Int} {f4 : Int} {g0 : (Int → Int)} {g1 : (Int → Int)} {g2 : (Int → Int)} {o : Int × Int × Int × (Int → Int) × (Int → Int)} (h : zf_LawReader_readTerm x1 f0 f1 f2 f4 g0 g1 g2 = some o) : zv_Fn z_TB z_cl z_KX zy_LawReader_readSum zxm44 (36, 2160) [.inr 0, .inl x1] [.inl f0, .inl f1, .inl f2, .inr 2, .inl f4] [g0, g1, g2] none [.inl o.1, .inl o.2.1, .inl f2, .inr 2, .inl o.2.2.1] [g0, o.2.2.2.1, o.2.2.2.2] := (ztg_LawReader_readSum 30).2.1 _ _ _ _ _ _ _ _ o h
def zf_LawReader_readFactor (x1 : Int) (f0 : Int) (f1 : Int) (f2 : Int) (f4 : Int) (g0 : (Int → Int)) (g1 : (Int → Int)) (g2 : (Int → Int)) : Option (Int × Int × Int × (Int → Int) × (Int → Int)) := zg_LawReader_readSum 30 2 x1 f0 f1 f2 f4 g0 g1 g2
theorem zt_LawReader_readFactor {x1 : Int} {f0 : Int} {f1 : Int} {f2 : Int} {f4 : Int} {g0 : (Int → Int)} {g1 : (Int → Int)} {g2 : (Int → Int)} {o : Int × Int × Int × (Int → Int) × (Int → Int)} (h : zf_LawReader_readFactor x1 f0 f1 f2 f4 g0 g1 g2 = some o) : zv_Fn z_TB z_cl z_KX zy_LawReader_readSum zxm45 (36, 2160) [.inr 0, .inl x1] [.inl f0, .inl f1, .inl f2, .inr 2, .inl f4] [g0, g1, g2] none [.inl o.1, .inl o.2.1, .inl f2, .inr 2, .inl o.2.2.1] [g0, o.2.2.2.1, o.2.2.2.2] := (ztg_LawReader_readSum 30).2.2 _ _ _ _ _ _ _ _ o h
end
