/-! Over named cells: sums that wrap, what a function asks for. -/
def zi_w (x : Int) : Int := Int.bmod x (2 ^ 32)
theorem zi_w_id {x : Int} (h1 : -2147483648 ≤ x) (h2 : x ≤ 2147483647) : zi_w x = x := z_bmod h1 h2
def zi_ev (op : Int32 → Int32 → Int32) (a b : Int) : Int := (op (Int32.ofInt a) (Int32.ofInt b)).toInt
def zi_and (a b : Int) : Int := zi_ev (fun x y => x &&& y) a b
def zi_or (a b : Int) : Int := zi_ev (fun x y => x ||| y) a b
def zi_xor (a b : Int) : Int := zi_ev (fun x y => x ^^^ y) a b
def zi_shl (a b : Int) : Int := zi_ev (fun x y => x <<< (y &&& 31)) a b
def zi_shr (a b : Int) : Int := zi_ev (fun x y => x >>> (y &&& 31)) a b
def zi_ush (a b : Int) : Int := zi_ev (fun x y => (x.toUInt32 >>> (y.toUInt32 &&& Int32.toUInt32 31)).toInt32) a b
def zi_div (a b : Int) : Int := zi_ev (fun x y => x / y) a b
def zi_rem (a b : Int) : Int := zi_ev (fun x y => x - x / y * y) a b
def zi_by (a : Int) : Int := (Int32.ofInt a).toInt8.toInt32.toInt
def zi_ch (a : Int) : Int := (Int32.ofInt a).toUInt32.toUInt16.toUInt32.toInt32.toInt
theorem zi_if {α : Type} {b : Bool} {k : Option α} {o : α} (h : (cond b k none) = some o) : b = true ∧ k = some o := by
  cases b with
  | true => exact ⟨rfl, h⟩
  | false => cases h
/-- an index that fits -/
def zi_ix (a : Int) (n : Nat) : Bool := decide (0 ≤ a) && decide (a < n)
theorem zi_ix_ok {a : Int} {n : Nat} (h : zi_ix a n = true) : 0 ≤ a ∧ a < n := by
  unfold zi_ix at h
  rw [Bool.and_eq_true] at h
  exact ⟨of_decide_eq_true h.1, of_decide_eq_true h.2⟩
def zi_ne (a : Int) : Bool := !(decide (a = 0))
theorem zi_ne_ok {a : Int} (h : zi_ne a = true) : a ≠ 0 := by
  unfold zi_ne at h
  simpa using h
/-- a boolean -/
def zi_bo (a : Int) : Bool := decide (0 ≤ a) && decide (a ≤ 1)
theorem zi_bo_ok {a : Int} (h : zi_bo a = true) : 0 ≤ a ∧ a ≤ 1 := by
  unfold zi_bo at h
  rw [Bool.and_eq_true] at h
  exact ⟨of_decide_eq_true h.1, of_decide_eq_true h.2⟩
theorem zi_bind {α β : Type} {x : Option α} {f : α → Option β} {o : β} (h : x.bind f = some o) : ∃ a, x = some a ∧ f a = some o := by
  cases x with
  | none => cases h
  | some a => exact ⟨a, rfl, h⟩
/-- a long on the stack -/
theorem zv_w_l {A : Nat → Nat} {n : Nat} {w : Value} (h : zv_w A (5000 + n) w) : w = .long (Int64.ofNat n) := by
  unfold zv_w at h
  have e : Nat.blt (5000 + n) 5000 = false := by
    cases hb : Nat.blt (5000 + n) 5000 with
    | false => rfl
    | true => have := z_blt hb; omega
  rw [e] at h
  have h : w = .long (Int64.ofNat (5000 + n - 5000)) := h
  rw [h, Nat.add_sub_cancel_left]
theorem zv_w_lm {A : Nat → Nat} {n : Nat} : zv_w A (5000 + n) (.long (Int64.ofNat n)) := by
  unfold zv_w
  have e : Nat.blt (5000 + n) 5000 = false := by
    cases hb : Nat.blt (5000 + n) 5000 with
    | false => rfl
    | true => have := z_blt hb; omega
  rw [e]
  show Value.long (Int64.ofNat n) = .long (Int64.ofNat (5000 + n - 5000))
  rw [Nat.add_sub_cancel_left]
def zi_lshl (a : Nat) (k : Int) : Nat := (Int64.ofNat a <<< ((Int32.ofInt k).toInt64 &&& 63)).toBitVec.toNat
def zi_lor (a b : Nat) : Nat := (Int64.ofNat a ||| Int64.ofNat b).toBitVec.toNat
def zi_lcmp (a b : Nat) : Int := (lg_cmp (Int64.ofNat a) (Int64.ofNat b)).toInt
theorem zi_l64 (x : Int64) : Int64.ofNat x.toBitVec.toNat = x := by
  show (⟨⟨BitVec.ofNat 64 x.toBitVec.toNat⟩⟩ : Int64) = x
  rw [BitVec.ofNat_toNat, BitVec.setWidth_eq]
  rfl
section ZVFUN
variable {cl : List vw_C} {FT : Nat → Nat → FieldType} {KXf : (Nat → Nat) → Nat → State → Heap → Prop} {TBL : List Cond} {MT : List zM} {y : zNL} {mm : zM} {K : zK} {rm : Nat × Nat} {good : Nat → List zNV → List zNV → List zNV → List (Int → Int) → Prop}
variable {pc : Nat} {L S : List zNV} {F : List zNV} {G : List (Int → Int)}
theorem zv_andw (hB : zv_B cl FT KXf TBL MT y mm K rm good) {a b : Int} (hd : decode mm.2.1 pc = .ok (.iand, 1)) (k : good (pc + 1) L (.inl (zi_and a b) :: S) F G) : good pc L (.inl b :: .inl a :: S) F G :=
  zv_bin hB hd rfl fun u v hu hv => by
    have e1 : Int32.ofInt a = u := by rw [← hu]; exact Int32.ofInt_toInt u
    have e2 : Int32.ofInt b = v := by rw [← hv]; exact Int32.ofInt_toInt v
    unfold zi_and zi_ev at k
    rw [e1, e2] at k
    exact k
theorem zv_orw (hB : zv_B cl FT KXf TBL MT y mm K rm good) {a b : Int} (hd : decode mm.2.1 pc = .ok (.ior, 1)) (k : good (pc + 1) L (.inl (zi_or a b) :: S) F G) : good pc L (.inl b :: .inl a :: S) F G :=
  zv_bin hB hd rfl fun u v hu hv => by
    have e1 : Int32.ofInt a = u := by rw [← hu]; exact Int32.ofInt_toInt u
    have e2 : Int32.ofInt b = v := by rw [← hv]; exact Int32.ofInt_toInt v
    unfold zi_or zi_ev at k
    rw [e1, e2] at k
    exact k
theorem zv_xorw (hB : zv_B cl FT KXf TBL MT y mm K rm good) {a b : Int} (hd : decode mm.2.1 pc = .ok (.ixor, 1)) (k : good (pc + 1) L (.inl (zi_xor a b) :: S) F G) : good pc L (.inl b :: .inl a :: S) F G :=
  zv_bin hB hd rfl fun u v hu hv => by
    have e1 : Int32.ofInt a = u := by rw [← hu]; exact Int32.ofInt_toInt u
    have e2 : Int32.ofInt b = v := by rw [← hv]; exact Int32.ofInt_toInt v
    unfold zi_xor zi_ev at k
    rw [e1, e2] at k
    exact k
theorem zv_shlw (hB : zv_B cl FT KXf TBL MT y mm K rm good) {a b : Int} (hd : decode mm.2.1 pc = .ok (.ishl, 1)) (k : good (pc + 1) L (.inl (zi_shl a b) :: S) F G) : good pc L (.inl b :: .inl a :: S) F G :=
  zv_bin hB hd rfl fun u v hu hv => by
    have e1 : Int32.ofInt a = u := by rw [← hu]; exact Int32.ofInt_toInt u
    have e2 : Int32.ofInt b = v := by rw [← hv]; exact Int32.ofInt_toInt v
    unfold zi_shl zi_ev at k
    rw [e1, e2] at k
    exact k
theorem zv_shrw (hB : zv_B cl FT KXf TBL MT y mm K rm good) {a b : Int} (hd : decode mm.2.1 pc = .ok (.ishr, 1)) (k : good (pc + 1) L (.inl (zi_shr a b) :: S) F G) : good pc L (.inl b :: .inl a :: S) F G :=
  zv_bin hB hd rfl fun u v hu hv => by
    have e1 : Int32.ofInt a = u := by rw [← hu]; exact Int32.ofInt_toInt u
    have e2 : Int32.ofInt b = v := by rw [← hv]; exact Int32.ofInt_toInt v
    unfold zi_shr zi_ev at k
    rw [e1, e2] at k
    exact k
theorem zv_ushw (hB : zv_B cl FT KXf TBL MT y mm K rm good) {a b : Int} (hd : decode mm.2.1 pc = .ok (.iushr, 1)) (k : good (pc + 1) L (.inl (zi_ush a b) :: S) F G) : good pc L (.inl b :: .inl a :: S) F G := by
  obtain ⟨p, l, e, R, s, m, args, below, meth, c, Q, OB, D, DA, sz, A, H0, Ts, cells, slots, ⟨hx, hb, hml, hD, hKS⟩, ⟨hsz, hXp, hX, -⟩, ⟨hwf, hinj, hge, hOB⟩, hg⟩ := hB
  refine (hg _ _ _ _ _).mpr fun H locs ls stk h1 h2 h3 h4 h5 => ?_
  obtain ⟨w, st, rfl, ⟨v, rfl, hv⟩, w2, st2, rfl, ⟨u, rfl, hu⟩, h6⟩ := h5
  have e1 : Int32.ofInt a = u := by rw [← hu]; exact Int32.ofInt_toInt u
  have e2 : Int32.ofInt b = v := by rw [← hv]; exact Int32.ofInt_toInt v
  unfold zi_ush zi_ev at k
  rw [e1, e2] at k
  exact lv_iushr hx hb hd rfl ((hg _ _ _ _ _).mp k H locs ls _ h1 h2 h3 h4 ⟨_, _, rfl, ⟨_, rfl, rfl⟩, h6⟩)
theorem zv_divw (hB : zv_B cl FT KXf TBL MT y mm K rm good) {a b : Int} (hd : decode mm.2.1 pc = .ok (.idiv, 1)) (hb0 : b ≠ 0) (k : good (pc + 1) L (.inl (zi_div a b) :: S) F G) : good pc L (.inl b :: .inl a :: S) F G :=
  zv_bin0 hB hd rfl hb0 fun u v hu hv => by
    have e1 : Int32.ofInt a = u := by rw [← hu]; exact Int32.ofInt_toInt u
    have e2 : Int32.ofInt b = v := by rw [← hv]; exact Int32.ofInt_toInt v
    unfold zi_div zi_ev at k
    rw [e1, e2] at k
    exact k
theorem zv_remw (hB : zv_B cl FT KXf TBL MT y mm K rm good) {a b : Int} (hd : decode mm.2.1 pc = .ok (.irem, 1)) (hb0 : b ≠ 0) (k : good (pc + 1) L (.inl (zi_rem a b) :: S) F G) : good pc L (.inl b :: .inl a :: S) F G :=
  zv_bin0 hB hd rfl hb0 fun u v hu hv => by
    have e1 : Int32.ofInt a = u := by rw [← hu]; exact Int32.ofInt_toInt u
    have e2 : Int32.ofInt b = v := by rw [← hv]; exact Int32.ofInt_toInt v
    unfold zi_rem zi_ev at k
    rw [e1, e2] at k
    exact k
theorem zv_addw (hB : zv_B cl FT KXf TBL MT y mm K rm good) {a b : Int} (hd : decode mm.2.1 pc = .ok (.iadd, 1)) (k : good (pc + 1) L (.inl (zi_w (a + b)) :: S) F G) : good pc L (.inl b :: .inl a :: S) F G :=
  zv_bin hB hd rfl fun u v hu hv => by
    have e : (u + v).toInt = zi_w (a + b) := by rw [Int32.toInt_add, hu, hv]; rfl
    show good _ _ (.inl (u + v).toInt :: _) _ _
    rw [e]; exact k
theorem zv_subw (hB : zv_B cl FT KXf TBL MT y mm K rm good) {a b : Int} (hd : decode mm.2.1 pc = .ok (.isub, 1)) (k : good (pc + 1) L (.inl (zi_w (a - b)) :: S) F G) : good pc L (.inl b :: .inl a :: S) F G :=
  zv_bin hB hd rfl fun u v hu hv => by
    have e : (u - v).toInt = zi_w (a - b) := by rw [Int32.toInt_sub, hu, hv]; rfl
    show good _ _ (.inl (u - v).toInt :: _) _ _
    rw [e]; exact k
theorem zv_mulw (hB : zv_B cl FT KXf TBL MT y mm K rm good) {a b : Int} (hd : decode mm.2.1 pc = .ok (.imul, 1)) (k : good (pc + 1) L (.inl (zi_w (a * b)) :: S) F G) : good pc L (.inl b :: .inl a :: S) F G :=
  zv_bin hB hd rfl fun u v hu hv => by
    have e : (u * v).toInt = zi_w (a * b) := by rw [Int32.toInt_mul, hu, hv]; rfl
    show good _ _ (.inl (u * v).toInt :: _) _ _
    rw [e]; exact k
theorem zv_negw (hB : zv_B cl FT KXf TBL MT y mm K rm good) {a : Int} (hd : decode mm.2.1 pc = .ok (.ineg, 1)) (k : good (pc + 1) L (.inl (zi_w (-a)) :: S) F G) : good pc L (.inl a :: S) F G :=
  zv_neg hB hd fun u hu => by
    have e : (-u).toInt = zi_w (-a) := by rw [Int32.toInt_neg, hu]; rfl
    rw [e]; exact k
theorem zv_i2b (hB : zv_B cl FT KXf TBL MT y mm K rm good) {a : Int} (hd : decode mm.2.1 pc = .ok (.i2b, 1)) (k : good (pc + 1) L (.inl (zi_by a) :: S) F G) : good pc L (.inl a :: S) F G := by
  obtain ⟨p, l, e, R, s, m, args, below, meth, c, Q, OB, D, DA, sz, A, H0, Ts, cells, slots, ⟨hx, hb, hml, hD, hKS⟩, ⟨hsz, hXp, hX, -⟩, ⟨hwf, hinj, hge, hOB⟩, hg⟩ := hB
  refine (hg _ _ _ _ _).mpr fun H locs ls stk h1 h2 h3 h4 h5 => ?_
  obtain ⟨w, st, rfl, ⟨x, rfl, hx2⟩, h6⟩ := h5
  have e1 : Int32.ofInt a = x := by rw [← hx2]; exact Int32.ofInt_toInt x
  unfold zi_by at k
  rw [e1] at k
  exact lv_i2b hx hb hd rfl ((hg _ _ _ _ _).mp k H locs ls _ h1 h2 h3 h4 ⟨_, _, rfl, ⟨_, rfl, rfl⟩, h6⟩)
theorem zv_i2c (hB : zv_B cl FT KXf TBL MT y mm K rm good) {a : Int} (hd : decode mm.2.1 pc = .ok (.i2c, 1)) (k : good (pc + 1) L (.inl (zi_ch a) :: S) F G) : good pc L (.inl a :: S) F G := by
  obtain ⟨p, l, e, R, s, m, args, below, meth, c, Q, OB, D, DA, sz, A, H0, Ts, cells, slots, ⟨hx, hb, hml, hD, hKS⟩, ⟨hsz, hXp, hX, -⟩, ⟨hwf, hinj, hge, hOB⟩, hg⟩ := hB
  refine (hg _ _ _ _ _).mpr fun H locs ls stk h1 h2 h3 h4 h5 => ?_
  obtain ⟨w, st, rfl, ⟨x, rfl, hx2⟩, h6⟩ := h5
  have e1 : Int32.ofInt a = x := by rw [← hx2]; exact Int32.ofInt_toInt x
  unfold zi_ch at k
  rw [e1] at k
  exact lv_i2c hx hb hd rfl ((hg _ _ _ _ _).mp k H locs ls _ h1 h2 h3 h4 ⟨_, _, rfl, ⟨_, rfl, rfl⟩, h6⟩)
theorem zv_iincw (hB : zv_B cl FT KXf TBL MT y mm K rm good) {i : Nat} {v n : Int} (hd : decode mm.2.1 pc = .ok (.iinc i n, 3)) (hn : (Nat.blt i mm.2.2.1 && z_noov n n) = true) (hl : zv_l L i = some (.inl v)) (k : good (pc + 3) (zv_s L i (.inl (zi_w (v + n)))) S F G) : good pc L S F G := by
  obtain ⟨p, l, e, R, s, m, args, below, meth, c, Q, OB, D, DA, sz, A, H0, Ts, cells, slots, ⟨hx, hb, hml, hD, hKS⟩, -, -, hg⟩ := hB
  rw [Bool.and_eq_true] at hn
  obtain ⟨q1, q2⟩ := z_noov_ok hn.2
  refine (hg _ _ _ _ _).mpr fun H locs ls stk g1 g2 g3 h4 h5 => ?_
  obtain ⟨lv, a1, a2, a3⟩ := h4
  obtain ⟨w, ⟨x, rfl, hv⟩, a4⟩ := a3 i _ hl trivial
  obtain ⟨j, hj⟩ := List.getElem?_of_mem a4
  have hx2 : (x + Int32.ofInt n).toInt = zi_w (v + n) := by
    rw [Int32.toInt_add, Int32.toInt_ofInt_of_le (by omega) (by omega), hv]; rfl
  exact lv_iinc hx hb hd a1 hj rfl (z_blt hn.1) rfl fun ls' h => (hg _ _ _ _ _).mp k H locs ls' stk g1 g2 g3 (zv_lv_set (v := .inl (zi_w (v + n))) (w := .inl v) rfl a2 a3 ⟨_, rfl, hx2⟩ hl h) h5
def zv_sta (ins : Instr) (len : Nat) : Option Nat := match ins with
  | .astore i => cond (Nat.beq len 2) (some i) none
  | .astore_n i => cond (Nat.beq len 1) (some i.val) none
  | _ => none
theorem zv_ast (hB : zv_B cl FT KXf TBL MT y mm K rm good) {ins : Instr} {len i v : Nat} {u : zNV} (hd : decode mm.2.1 pc = .ok (ins, len)) (hv5 : Nat.blt v 5000 = true) (hc : zv_sta ins len = some i) (hn : Nat.blt i mm.2.2.1 = true) (hl : zv_l L i = some u) (k : good (pc + len) (zv_s L i (.inr v)) S F G) : good pc L (.inr v :: S) F G := by
  obtain ⟨p, l, e, R, s, m, args, below, meth, c, Q, OB, D, DA, sz, A, H0, Ts, cells, slots, ⟨hx, hb, hml, hD, hKS⟩, ⟨hsz, hXp, hX, -⟩, ⟨hwf, hinj, hge, hOB⟩, hg⟩ := hB
  refine (hg _ _ _ _ _).mpr fun H locs ls stk h1 h2 h3 h4 h5 => ?_
  obtain ⟨w, st, rfl, hw, h6⟩ := h5
  have hw : w = .ref (A v) := zv_w_r hw (z_blt hv5)
  subst hw
  obtain ⟨lv, a1, a2, a3⟩ := h4
  have kk := fun (ls' : Array Slot) (h : lv_has ls' mm.2.2.1 ((i, Value.ref (A v)) :: lv.filter (fun q => !(q.1 == i) && !(q.1 + 1 == i && q.2.category == 2)))) => (hg _ _ _ _ _).mp k H locs ls' _ h1 h2 h3 (zv_lv_set (v := .inr v) (w := u) hv5 a2 a3 (zv_w_mk (z_blt hv5)) hl h) h6
  unfold zv_sta at hc
  split at hc
  · obtain ⟨c1, rfl⟩ := z_cond hc
    rw [z_beq c1] at hd kk
    exact lv_astore hx hb hd a1 (z_blt hn) rfl kk
  · obtain ⟨c1, rfl⟩ := z_cond hc
    rw [z_beq c1] at hd kk
    exact lv_astore_n hx hb hd rfl a1 (z_blt hn) rfl kk
  · cases hc
theorem zv_alen (hB : zv_B cl FT KXf TBL MT y mm K rm good) {c k0 n j : Nat} {v : Int} (hd : decode mm.2.1 pc = .ok (.arraylength, 1)) (ha : zv_ar y c = some (k0, n, j)) (hk : Nat.ble k0 2 = true) (hn : Nat.blt n 2147483648 = true) (hv : (n : Int) = v) (k : good (pc + 1) L (.inl v :: S) F G) : good pc L (.inr c :: S) F G := by
  obtain ⟨p, l, e, R, s, m, args, below, meth, c, Q, OB, D, DA, sz, A, H0, Ts, cells, slots, ⟨hx, hb, hml, hD, hKS⟩, ⟨hsz, hXp, hX, -⟩, ⟨hwf, hinj, hge, hOB⟩, hg⟩ := hB
  refine (hg _ _ _ _ _).mpr fun H locs ls stk h1 h2 h3 h4 h5 => ?_
  obtain ⟨w, st, rfl, hw, h6⟩ := h5
  have hw : w = .ref (A _) := zv_w_r hw (zv_ar_lt hwf ha)
  subst hw
  obtain ⟨f, g2, x1, x2, x3⟩ := h1.2.2.2 _ (zv_ar_ok ha)
  have hnn : n < 2147483648 := z_blt hn
  subst hv
  exact W.alen (n := Int32.ofNat n) hx hb x1 (z_isarr hD (k := k0) (Nat.lt_succ_of_le (Nat.le_of_ble_eq_true hk)) n f) (by rw [arrV_size]) rfl rfl hd ((hg _ _ _ _ _).mp k H locs ls _ h1 h2 h3 h4 ⟨_, _, rfl, ⟨_, rfl, Int32.toInt_ofNat_of_lt (by omega)⟩, h6⟩)
theorem zv_bast (hB : zv_B cl FT KXf TBL MT y mm K rm good) {c n j : Nat} {a v : Int} {g : Int → Int} (hd : decode mm.2.1 pc = .ok (.bastore, 1)) (ha : zv_ar y c = some (1, n, j)) (hl : zv_l G j = some g) (ha1 : 0 ≤ a) (ha2 : a < n) (k : good (pc + 1) L S F (zv_s G j (zv_up g a (zi_by v)))) : good pc L (.inl v :: .inl a :: .inr c :: S) F G := by
  obtain ⟨p, l, e, R, s, m, args, below, meth, cc, Q, OB, D, DA, sz, A, H0, Ts, cells, slots, ⟨hx, hb, hml, hD, hKS⟩, ⟨hsz, hXp, hX, -⟩, ⟨hwf, hinj, hge, hOB⟩, hg⟩ := hB
  refine (hg _ _ _ _ _).mpr fun H locs ls stk h1 h2 h3 h4 h5 => ?_
  obtain ⟨w0, st0, rfl, ⟨u, rfl, rfl⟩, w, st, rfl, ⟨x, rfl, rfl⟩, w2, st2, rfl, hw, h6⟩ := h5
  have hw : w2 = .ref (A _) := zv_w_r hw (zv_ar_lt hwf ha)
  subst hw
  have hm := zv_ar_ok ha
  obtain ⟨f, g2, x1, x2, x3⟩ := h1.2.2.2 _ hm
  rw [hl] at x2
  cases x2
  obtain ⟨b1, b2⟩ := zv_ix ha1 ha2
  obtain ⟨a1, a2, a3, a4⟩ := zv_wfA hwf hm
  have a1 : c < n_N y := a1
  refine W.bast hx hb x1 (z_isarr hD (k := 1) (by omega) n f) (fun q => by cases q) (by rw [arrV_size]; exact b1) rfl rfl hd fun H1 e1 e2 e3 => ?_
  have e1' : H1[A c]? = some (arrV (DA 1) n (updV f x.toNatClampNeg (.int u.toInt8.toInt32))) := by rw [e1, arrV_store]; rfl
  have hne : ∀ b, b < n_N y → b ≠ c → A b ≠ A c := fun b hb1 hb2 hb3 => hb2 (hinj _ _ hb1 a1 hb3)
  refine (hg _ _ _ _ _).mp k H1 _ ls st2 ⟨fun q hq => ?_, fun q hq => ?_, fun q hq => ?_, fun q hq => ?_⟩ (zv_frm_tr h2 ⟨e2, fun b hb1 => e3 b (fun e => hb1 c a1 e.symm), fun q hq r' k2 w hr hk2 hk3 hk4 => ?_⟩) (zv_S_set (A := A) h3 (hge _ a1) e2 e3) h4 h6
  · obtain ⟨w1, w2, w3⟩ := zv_wfO hwf hq
    obtain ⟨r', V', y1, y2⟩ := h1.1 q hq
    exact ⟨r', V', y1, y2.kept (e3 _ (hne _ w1 (w2 _ hm)))⟩
  · obtain ⟨r', x', f', y1, y2, y3, y4⟩ := h1.2.1 q hq
    exact ⟨r', x', f', y1, y2, z_sl_kept y3 (e3 _ (hne _ (zv_wfIn hwf hq).1 (fun e => a3 _ hq e.symm))), y4⟩
  · obtain ⟨r', y1, y2, y3⟩ := h1.2.2.1 q hq
    exact ⟨r', y1, y2, z_sl_kept y3 (e3 _ (hne _ (zv_wfR hwf hq).1 (fun e => a4 _ hq e.symm)))⟩
  · obtain ⟨f2, g2, y1, y2, y3⟩ := h1.2.2.2 q hq
    obtain ⟨w1, w2, w3, w4⟩ := zv_wfA hwf hq
    by_cases e : q.1 = c
    · obtain ⟨v1, v2⟩ := a2 q hq
      obtain ⟨v3, v4⟩ := v2 e.symm
      have v5 : j = q.2.2.2 := v1.mpr e.symm
      have v3 : 1 = q.2.1 := v3
      have v4 : n = q.2.2.1 := v4
      refine ⟨_, _, by rw [e, ← v3, ← v4]; exact e1', by rw [← v5]; exact zv_ls_eq hl, fun i hi => ?_⟩
      rw [← v4] at hi
      rw [← v3]
      obtain ⟨z, z1, z2⟩ := x3 i hi
      by_cases ei : i = x.toInt.toNat
      · refine ⟨u.toInt8.toInt32, ?_, ?_⟩
        · rw [z_clamp, ei]; simp [updV]
        · rw [ei, Int.toNat_of_nonneg ha1, zv_up_s]; unfold zi_by; rw [Int32.ofInt_toInt]
      · refine ⟨z, ?_, ?_⟩
        · have hne2 : ¬ i = x.toNatClampNeg := ei
          simp [updV, hne2, z1]
        · rw [zv_up_n (by omega)]; exact z2
    · refine ⟨f2, g2, by rw [e3 _ (hne _ w1 e)]; exact y1, ?_, y3⟩
      rw [zv_ls_ne (fun h7 => e ((w2 _ hm).1.mp h7.symm))]
      exact y2
  · exact z_sl_kept hk4 (e3 _ (hne _ (zv_wfO hwf hq).1 ((zv_wfO hwf hq).2.1 _ hm)))
theorem zv_lcon (hB : zv_B cl FT KXf TBL MT y mm K rm good) {n : Fin 2} (hd : decode mm.2.1 pc = .ok (.lconst n, 1)) (k : good (pc + 1) L (.inr (5000 + n.val) :: S) F G) : good pc L S F G := by
  obtain ⟨p, l, e, R, s, m, args, below, meth, cc, Q, OB, D, DA, sz, A, H0, Ts, cells, slots, ⟨hx, hb, hml, hD, hKS⟩, ⟨hsz, hXp, hX, -⟩, ⟨hwf, hinj, hge, hOB⟩, hg⟩ := hB
  refine (hg _ _ _ _ _).mpr fun H locs ls stk h1 h2 h3 h4 h5 => ?_
  exact lv_lconst hx hb hd rfl ((hg _ _ _ _ _).mp k H locs ls _ h1 h2 h3 h4 ⟨_, _, rfl, zv_w_lm, h5⟩)
theorem zv_lshlw (hB : zv_B cl FT KXf TBL MT y mm K rm good) {a : Nat} {b : Int} (hd : decode mm.2.1 pc = .ok (.lshl, 1)) (k : good (pc + 1) L (.inr (5000 + zi_lshl a b) :: S) F G) : good pc L (.inl b :: .inr (5000 + a) :: S) F G := by
  obtain ⟨p, l, e, R, s, m, args, below, meth, cc, Q, OB, D, DA, sz, A, H0, Ts, cells, slots, ⟨hx, hb, hml, hD, hKS⟩, ⟨hsz, hXp, hX, -⟩, ⟨hwf, hinj, hge, hOB⟩, hg⟩ := hB
  refine (hg _ _ _ _ _).mpr fun H locs ls stk h1 h2 h3 h4 h5 => ?_
  obtain ⟨w, st, rfl, ⟨v, rfl, hv⟩, w2, st2, rfl, hu, h6⟩ := h5
  have hu : w2 = .long (Int64.ofNat a) := zv_w_l hu
  subst hu
  have e2 : Int32.ofInt b = v := by rw [← hv]; exact Int32.ofInt_toInt v
  have hz := zv_w_lm (A := A) (n := zi_lshl a b)
  rw [show Int64.ofNat (zi_lshl a b) = Int64.ofNat a <<< (v.toInt64 &&& 63) by unfold zi_lshl; rw [zi_l64, e2]] at hz
  exact lv_lshl hx hb hd rfl ((hg _ _ _ _ _).mp k H locs ls _ h1 h2 h3 h4 ⟨_, _, rfl, hz, h6⟩)
theorem zv_lorw (hB : zv_B cl FT KXf TBL MT y mm K rm good) {a b : Nat} (hd : decode mm.2.1 pc = .ok (.lor, 1)) (k : good (pc + 1) L (.inr (5000 + zi_lor a b) :: S) F G) : good pc L (.inr (5000 + b) :: .inr (5000 + a) :: S) F G := by
  obtain ⟨p, l, e, R, s, m, args, below, meth, cc, Q, OB, D, DA, sz, A, H0, Ts, cells, slots, ⟨hx, hb, hml, hD, hKS⟩, ⟨hsz, hXp, hX, -⟩, ⟨hwf, hinj, hge, hOB⟩, hg⟩ := hB
  refine (hg _ _ _ _ _).mpr fun H locs ls stk h1 h2 h3 h4 h5 => ?_
  obtain ⟨w, st, rfl, hv, w2, st2, rfl, hu, h6⟩ := h5
  have hu : w2 = .long (Int64.ofNat a) := zv_w_l hu
  have hv : w = .long (Int64.ofNat b) := zv_w_l hv
  subst hu; subst hv
  have hz := zv_w_lm (A := A) (n := zi_lor a b)
  rw [show Int64.ofNat (zi_lor a b) = Int64.ofNat a ||| Int64.ofNat b by unfold zi_lor; rw [zi_l64]] at hz
  exact lv_lor hx hb hd ((hg _ _ _ _ _).mp k H locs ls _ h1 h2 h3 h4 ⟨_, _, rfl, hz, h6⟩)
theorem zv_lcmpw (hB : zv_B cl FT KXf TBL MT y mm K rm good) {a b : Nat} (hd : decode mm.2.1 pc = .ok (.lcmp, 1)) (k : good (pc + 1) L (.inl (zi_lcmp a b) :: S) F G) : good pc L (.inr (5000 + b) :: .inr (5000 + a) :: S) F G := by
  obtain ⟨p, l, e, R, s, m, args, below, meth, cc, Q, OB, D, DA, sz, A, H0, Ts, cells, slots, ⟨hx, hb, hml, hD, hKS⟩, ⟨hsz, hXp, hX, -⟩, ⟨hwf, hinj, hge, hOB⟩, hg⟩ := hB
  refine (hg _ _ _ _ _).mpr fun H locs ls stk h1 h2 h3 h4 h5 => ?_
  obtain ⟨w, st, rfl, hv, w2, st2, rfl, hu, h6⟩ := h5
  have hu : w2 = .long (Int64.ofNat a) := zv_w_l hu
  have hv : w = .long (Int64.ofNat b) := zv_w_l hv
  subst hu; subst hv
  exact W.lcmp hx hb hd ((hg _ _ _ _ _).mp k H locs ls _ h1 h2 h3 h4 ⟨_, _, rfl, ⟨_, rfl, rfl⟩, h6⟩)
theorem zv_lald (hB : zv_B cl FT KXf TBL MT y mm K rm good) {c n j : Nat} {a : Int} {g : Int → Int} (hd : decode mm.2.1 pc = .ok (.laload, 1)) (ha : zv_ar y c = some (2, n, j)) (hl : zv_l G j = some g) (ha1 : 0 ≤ a) (ha2 : a < n) (k : good (pc + 1) L (.inr (5000 + (g a).toNat) :: S) F G) : good pc L (.inl a :: .inr c :: S) F G := by
  obtain ⟨p, l, e, R, s, m, args, below, meth, cc, Q, OB, D, DA, sz, A, H0, Ts, cells, slots, ⟨hx, hb, hml, hD, hKS⟩, ⟨hsz, hXp, hX, -⟩, ⟨hwf, hinj, hge, hOB⟩, hg⟩ := hB
  refine (hg _ _ _ _ _).mpr fun H locs ls stk h1 h2 h3 h4 h5 => ?_
  obtain ⟨w, st, rfl, ⟨x, rfl, rfl⟩, w2, st2, rfl, hw, h6⟩ := h5
  have hw : w2 = .ref (A _) := zv_w_r hw (zv_ar_lt hwf ha)
  subst hw
  obtain ⟨f, g2, x1, x2, x3⟩ := h1.2.2.2 _ (zv_ar_ok ha)
  rw [hl] at x2
  cases x2
  obtain ⟨b1, b2⟩ := zv_ix ha1 ha2
  have v1 : f x.toInt.toNat = .long (Int64.ofNat (g ((x.toInt.toNat : Nat) : Int)).toNat) := x3 x.toInt.toNat b2
  rw [Int.toNat_of_nonneg ha1] at v1
  refine W.lald hx hb x1 (z_isarr hD (k := 2) (by omega) n f) (fun q => by cases q) (by rw [arrV_size]; exact b1) (v := .long (Int64.ofNat (g x.toInt).toNat)) (by rw [z_clamp, arrV_read _ _ b2, v1]) rfl rfl hd ?_
  exact (hg _ _ _ _ _).mp k H locs ls _ h1 h2 h3 h4 ⟨_, _, rfl, zv_w_lm, h6⟩
theorem zv_last (hB : zv_B cl FT KXf TBL MT y mm K rm good) {c n j v : Nat} {a : Int} {g : Int → Int} (hd : decode mm.2.1 pc = .ok (.lastore, 1)) (ha : zv_ar y c = some (2, n, j)) (hl : zv_l G j = some g) (ha1 : 0 ≤ a) (ha2 : a < n) (k : good (pc + 1) L S F (zv_s G j (zv_up g a (v : Int)))) : good pc L (.inr (5000 + v) :: .inl a :: .inr c :: S) F G := by
  obtain ⟨p, l, e, R, s, m, args, below, meth, cc, Q, OB, D, DA, sz, A, H0, Ts, cells, slots, ⟨hx, hb, hml, hD, hKS⟩, ⟨hsz, hXp, hX, -⟩, ⟨hwf, hinj, hge, hOB⟩, hg⟩ := hB
  refine (hg _ _ _ _ _).mpr fun H locs ls stk h1 h2 h3 h4 h5 => ?_
  obtain ⟨w0, st0, rfl, hw0, w, st, rfl, ⟨x, rfl, rfl⟩, w2, st2, rfl, hw, h6⟩ := h5
  have hw : w2 = .ref (A _) := zv_w_r hw (zv_ar_lt hwf ha)
  subst hw
  have hw0 : w0 = .long (Int64.ofNat v) := zv_w_l hw0
  subst hw0
  have hm := zv_ar_ok ha
  obtain ⟨f, g2, x1, x2, x3⟩ := h1.2.2.2 _ hm
  rw [hl] at x2
  cases x2
  obtain ⟨b1, b2⟩ := zv_ix ha1 ha2
  obtain ⟨a1, a2, a3, a4⟩ := zv_wfA hwf hm
  have a1 : c < n_N y := a1
  refine W.last hx hb x1 (z_isarr hD (k := 2) (by omega) n f) (fun q => by cases q) (by rw [arrV_size]; exact b1) rfl rfl hd fun H1 e1 e2 e3 => ?_
  have e1' : H1[A c]? = some (arrV (DA 2) n (updV f x.toNatClampNeg (.long (Int64.ofNat v)))) := by rw [e1, arrV_store]
  have hne : ∀ b, b < n_N y → b ≠ c → A b ≠ A c := fun b hb1 hb2 hb3 => hb2 (hinj _ _ hb1 a1 hb3)
  refine (hg _ _ _ _ _).mp k H1 _ ls st2 ⟨fun q hq => ?_, fun q hq => ?_, fun q hq => ?_, fun q hq => ?_⟩ (zv_frm_tr h2 ⟨e2, fun b hb1 => e3 b (fun e => hb1 c a1 e.symm), fun q hq r' k2 w hr hk2 hk3 hk4 => ?_⟩) (zv_S_set (A := A) h3 (hge _ a1) e2 e3) h4 h6
  · obtain ⟨w1, w2, w3⟩ := zv_wfO hwf hq
    obtain ⟨r', V', y1, y2⟩ := h1.1 q hq
    exact ⟨r', V', y1, y2.kept (e3 _ (hne _ w1 (w2 _ hm)))⟩
  · obtain ⟨r', x', f', y1, y2, y3, y4⟩ := h1.2.1 q hq
    exact ⟨r', x', f', y1, y2, z_sl_kept y3 (e3 _ (hne _ (zv_wfIn hwf hq).1 (fun e => a3 _ hq e.symm))), y4⟩
  · obtain ⟨r', y1, y2, y3⟩ := h1.2.2.1 q hq
    exact ⟨r', y1, y2, z_sl_kept y3 (e3 _ (hne _ (zv_wfR hwf hq).1 (fun e => a4 _ hq e.symm)))⟩
  · obtain ⟨f2, g2, y1, y2, y3⟩ := h1.2.2.2 q hq
    obtain ⟨w1, w2, w3, w4⟩ := zv_wfA hwf hq
    by_cases e : q.1 = c
    · obtain ⟨v1, v2⟩ := a2 q hq
      obtain ⟨v3, v4⟩ := v2 e.symm
      have v5 : j = q.2.2.2 := v1.mpr e.symm
      have v3 : 2 = q.2.1 := v3
      have v4 : n = q.2.2.1 := v4
      refine ⟨_, _, by rw [e, ← v3, ← v4]; exact e1', by rw [← v5]; exact zv_ls_eq hl, fun i hi => ?_⟩
      rw [← v4] at hi
      rw [← v3]
      have z1 : f i = .long (Int64.ofNat (g (i : Int)).toNat) := x3 i hi
      show updV f x.toNatClampNeg (.long (Int64.ofNat v)) i = .long (Int64.ofNat (zv_up g x.toInt (v : Int) (i : Int)).toNat)
      by_cases ei : i = x.toInt.toNat
      · rw [z_clamp, ei, Int.toNat_of_nonneg ha1, zv_up_s, Int.toNat_natCast]
        simp [updV]
      · rw [zv_up_n (by omega), ← z1]
        have hne2 : ¬ i = x.toNatClampNeg := ei
        simp [updV, hne2]
    · refine ⟨f2, g2, by rw [e3 _ (hne _ w1 e)]; exact y1, ?_, y3⟩
      rw [zv_ls_ne (fun h7 => e ((w2 _ hm).1.mp h7.symm))]
      exact y2
  · exact z_sl_kept hk4 (e3 _ (hne _ (zv_wfO hwf hq).1 ((zv_wfO hwf hq).2.1 _ hm)))
end ZVFUN
