/-! Conditions: the machine, and the class's reader against it. -/
def yp_cs (c : Int) : Int := if c = 60 then 10 else if c = 62 then 11 else if c = 61 then 12 else -1
theorem yp_cs_in (c : Int) : yp_cs c = -1 ∨ (10 ≤ yp_cs c ∧ yp_cs c ≤ 12) := by unfold yp_cs; (repeat' split) <;> simp
abbrev zWT : Type := List (Int × Int)
def yp_hd : zWT → Int
  | [] => 0
  | s :: _ => s.1
def yp_la (all : Bool) : zWT → zCD → zWT × zCD
  | [], c => ([], c)
  | s :: w, c => if s.1 = 11 ∨ (all = true ∧ s.1 = 12) then yp_la all w (yp_ln s.2 c) else (s :: w, c)
/-- true: a piece is due; false: behind one -/
def yp_C (T : Int → Int) (len : Int) : Nat → Bool → zWT → Int → Int → zCD → Option (Int ⊕ (Int × zCD))
  | 0, _, _, _, _, _ => none
  | n + 1, true, w, o, p, c => if yp_pk T len p = 33 then (if o = 6 then some (.inl (-5000 - p)) else yp_C T len n true ((10, 0) :: w) (o + 1) (p + 1) c)
    else if yp_pk T len p = 40 then (if o = 6 then some (.inl (-5000 - p)) else yp_C T len n true ((13, 0) :: w) (o + 1) (p + 1) c)
    else (yp_S T len 1000 true [] o p c).bind fun r => Sum.elim (fun f => some (.inl f)) (fun q => if yp_cs (yp_pk T len q.1) = -1 then some (.inl (-1000 - q.1)) else (yp_S T len 1000 true [] o (q.1 + 1) q.2).bind fun r2 => Sum.elim (fun f => some (.inl f)) (fun q2 => yp_C T len n false w o q2.1 (yp_em (yp_cs (yp_pk T len q.1)) 0 q2.2)) r2) r
  | n + 1, false, w, o, p, c => if yp_hd w = 10 then yp_C T len n false w.tail (o - 1) p (yp_em 2 0 c)
    else if yp_pk T len p = 41 then (if (yp_la true w c).1.tail = [] then some (.inr (p + 1, (yp_la true w c).2)) else yp_C T len n false (yp_la true w c).1.tail (o - 1) (p + 1) (yp_la true w c).2)
    else if yp_pk T len p = 38 then yp_C T len n true ((11, (yp_la false w c).2.1) :: (yp_la false w c).1) o (p + 1) (yp_em 4 0 (yp_la false w c).2)
    else if yp_pk T len p = 124 then yp_C T len n true ((12, (yp_la true w c).2.1) :: (yp_la true w c).1) o (p + 1) (yp_em 3 0 (yp_la true w c).2)
    else some (.inl (-1000 - p))
section ZPC
variable {T : Int → Int} {len o p : Int} {c : zCD} {w : zWT} {n : Nat}
theorem yp_C_t : yp_C T len (n + 1) true w o p c = if yp_pk T len p = 33 then (if o = 6 then some (.inl (-5000 - p)) else yp_C T len n true ((10, 0) :: w) (o + 1) (p + 1) c)
    else if yp_pk T len p = 40 then (if o = 6 then some (.inl (-5000 - p)) else yp_C T len n true ((13, 0) :: w) (o + 1) (p + 1) c)
    else (yp_S T len 1000 true [] o p c).bind fun r => Sum.elim (fun f => some (.inl f)) (fun q => if yp_cs (yp_pk T len q.1) = -1 then some (.inl (-1000 - q.1)) else (yp_S T len 1000 true [] o (q.1 + 1) q.2).bind fun r2 => Sum.elim (fun f => some (.inl f)) (fun q2 => yp_C T len n false w o q2.1 (yp_em (yp_cs (yp_pk T len q.1)) 0 q2.2)) r2) r := rfl
theorem yp_C_f : yp_C T len (n + 1) false w o p c = if yp_hd w = 10 then yp_C T len n false w.tail (o - 1) p (yp_em 2 0 c)
    else if yp_pk T len p = 41 then (if (yp_la true w c).1.tail = [] then some (.inr (p + 1, (yp_la true w c).2)) else yp_C T len n false (yp_la true w c).1.tail (o - 1) (p + 1) (yp_la true w c).2)
    else if yp_pk T len p = 38 then yp_C T len n true ((11, (yp_la false w c).2.1) :: (yp_la false w c).1) o (p + 1) (yp_em 4 0 (yp_la false w c).2)
    else if yp_pk T len p = 124 then yp_C T len n true ((12, (yp_la true w c).2.1) :: (yp_la true w c).1) o (p + 1) (yp_em 3 0 (yp_la true w c).2)
    else some (.inl (-1000 - p)) := rfl
theorem yp_la_c {all : Bool} {s : Int × Int} : yp_la all (s :: w) c = if s.1 = 11 ∨ (all = true ∧ s.1 = 12) then yp_la all w (yp_ln s.2 c) else (s :: w, c) := rfl
theorem yp_la_n {all : Bool} (h : yp_hd w ≠ 11 ∧ (all = true → yp_hd w ≠ 12)) : yp_la all w c = (w, c) := by
  cases w with
  | nil => rfl
  | cons s w =>
    rw [yp_la_c, if_neg]
    intro hh
    have h1 : s.1 ≠ 11 := h.1
    rcases hh with k | ⟨k1, k2⟩
    · exact h1 k
    · exact h.2 k1 k2
theorem yp_C_ifn {j : Int} (hw : yp_hd w ≠ 10) : yp_C T len n false ((11, j) :: w) o p c = yp_C T len n false w o p (yp_ln j c) := by
  cases n with
  | zero => rfl
  | succ n =>
    have q : ∀ all, yp_la all ((11, j) :: w) c = yp_la all w (yp_ln j c) := fun all => by rw [yp_la_c, if_pos (Or.inl rfl)]
    rw [yp_C_f, yp_C_f, q, q, if_neg hw, if_neg (show ¬ yp_hd ((11, j) :: w) = 10 from (by decide : ¬ (11 : Int) = 10))]
theorem yp_C_ifs {j : Int} (hw : yp_hd w ≠ 10) (hp : yp_pk T len p ≠ 38) : yp_C T len n false ((12, j) :: w) o p c = yp_C T len n false w o p (yp_ln j c) := by
  cases n with
  | zero => rfl
  | succ n =>
    have q : yp_la true ((12, j) :: w) c = yp_la true w (yp_ln j c) := by rw [yp_la_c, if_pos (Or.inr ⟨rfl, rfl⟩)]
    rw [yp_C_f, yp_C_f, q, if_neg hw, if_neg (show ¬ yp_hd ((12, j) :: w) = 10 from (by decide : ¬ (12 : Int) = 10)), if_neg hp, if_neg hp]
end ZPC
def yp_okC (T : Int → Int) (len o : Int) (W : zWT → Prop) (N : Int → Prop) (p : Int) (c : zCD) (p' : Int) (c' : zCD) : Prop :=
  p < p' ∧ c.1 < c'.1 ∧ c'.1 - c.1 ≤ p' - p ∧ (∀ j, j < c.1 → c'.2.1 j = c.2.1 j ∧ c'.2.2 j = c.2.2 j) ∧ (∃ ρ, zd_seg true c'.2.1 c'.2.2 c.1 c'.1 16 ρ) ∧ N (yp_pk T len p') ∧
  ∀ w, W w → ∃ k : Nat, (k : Int) ≤ 2 * (p' - p) ∧ ∀ n, yp_C T len (n + k) true w o p c = yp_C T len n false w o p' c'
def yp_noC (T : Int → Int) (len o : Int) (W : zWT → Prop) (p : Int) (c : zCD) (f : Int) : Prop :=
  ∀ w, W w → ∃ k : Nat, (k : Int) ≤ 2 * (len - p) ∧ ∀ n, yp_C T len (n + k + 1) true w o p c = some (.inl f)
def yp_CC (T : Int → Int) (len o : Int) (W : zWT → Prop) (N : Int → Prop) (p : Int) (c : zCD) (r : Int × Int × zCD) : Prop :=
  (0 ≤ r.2.1 ∧ r.2.1 ≤ len) ∧ (0 ≤ r.2.2.1 ∧ r.2.2.1 ≤ 200) ∧ (r.1 = 0 → yp_okC T len o W N p c r.2.1 r.2.2) ∧ (r.1 ≠ 0 → yp_noC T len o W p c r.1)
def yp_wp (w : zWT) : Prop := w ≠ []
def yp_wq (w : zWT) : Prop := yp_hd w = 12 ∨ yp_hd w = 13
def yp_wc (w : zWT) : Prop := yp_hd w = 13
def yp_noa (x : Int) : Prop := x ≠ 38
def yp_noo (x : Int) : Prop := x ≠ 38 ∧ x ≠ 124
section ZCC
variable {T : Int → Int} {len o : Int} {W W2 : zWT → Prop} {N N2 : Int → Prop} {p0 p s kk x : Int} {c0 c : zCD} {r : Int × Int × zCD} {all : Bool}
theorem yp_CC_N (h : yp_CC T len o W N2 p0 c0 r) (k : r.1 = 0 → N (yp_pk T len r.2.1)) : yp_CC T len o W N p0 c0 r :=
  ⟨h.1, h.2.1, fun e => (by
    obtain ⟨q1, q2, q3, q4, q5, q6, q7⟩ := h.2.2.1 e
    exact ⟨q1, q2, q3, q4, q5, k e, q7⟩), h.2.2.2⟩
theorem yp_CC_W (h : yp_CC T len o W N p0 c0 r) (k : ∀ w, W2 w → W w) : yp_CC T len o W2 N p0 c0 r :=
  ⟨h.1, h.2.1, fun e => (by
    obtain ⟨q1, q2, q3, q4, q5, q6, q7⟩ := h.2.2.1 e
    exact ⟨q1, q2, q3, q4, q5, q6, fun w hw => q7 w (k w hw)⟩), fun e w hw => h.2.2.2 e w (k w hw)⟩
theorem yp_CC_step (hl : len ≤ 200) (h0 : c0.1 ≤ p0) (hs : yp_CC T len o W N p0 c0 (0, p, c)) (hp : p < len) (hr : yp_CC T len o W2 N2 (p + 1) (yp_em kk 0 c) r) (hk : kk = 3 ∨ kk = 4)
    (h1 : ∀ w, W w → W2 ((s, c.1) :: w) ∧ ∀ n, yp_C T len (n + 1) false w o p c = yp_C T len n true ((s, c.1) :: w) o (p + 1) (yp_em kk 0 c))
    (hM : ∀ w c' p', W w → N2 (yp_pk T len p') → ∀ n, yp_C T len n false ((s, c.1) :: w) o p' c' = yp_C T len n false w o p' (yp_ln c.1 c')) :
    (r.1 = 0 → p + 1 < r.2.1 ∧ yp_CC T len o W yp_any p0 c0 (0, r.2.1, yp_ln c.1 r.2.2)) ∧ (r.1 ≠ 0 → ∀ c'' : zCD, 0 ≤ c''.1 → c''.1 ≤ 200 → yp_CC T len o W N p0 c0 (r.1, r.2.1, c'')) := by
  obtain ⟨⟨p1, p2⟩, ⟨c1, c2⟩, hs, -⟩ := hs
  obtain ⟨a1, a2, a3, a4, ⟨ρ1, a5⟩, -, a7⟩ := hs rfl
  obtain ⟨⟨r1, r2⟩, ⟨r3, r4⟩, ro, rb⟩ := hr
  have a3 : c.1 - c0.1 ≤ p - p0 := a3
  have a2 : c0.1 < c.1 := a2
  have a1 : p0 < p := a1
  have p2 : p ≤ len := p2
  refine ⟨fun e => ?_, fun e c'' d1 d2 => ?_⟩
  · obtain ⟨b1, b2, b3, b4, ⟨ρ2, b5⟩, b6, b7⟩ := ro e
    have b2 : c.1 + 1 < r.2.2.1 := b2
    have b3 : r.2.2.1 - (c.1 + 1) ≤ r.2.1 - (p + 1) := b3
    have b4 : ∀ j, j < c.1 + 1 → r.2.2.2.1 j = zv_up c.2.1 c.1 kk j ∧ r.2.2.2.2 j = zv_up c.2.2 c.1 0 j := b4
    have kc : r.2.2.2.1 c.1 = kk := (b4 c.1 (by omega)).1.trans zv_up_s
    refine ⟨b1, ⟨r1, r2⟩, ⟨r3, r4⟩, fun _ => ⟨?_, ?_, ?_, fun j hj => ?_, ⟨_, zg_jmp (b := c.1) (ρ1 := ρ1) (ρ2 := ρ2) ?_ ?_ ?_ ?_ (by decide)⟩, trivial, fun w hw => ?_⟩, fun h => absurd rfl h⟩
    · show p0 < r.2.1; omega
    · show c0.1 < r.2.2.1; omega
    · show r.2.2.1 - c0.1 ≤ r.2.1 - p0; omega
    · have q1 := b4 j (by omega)
      have q2 := a4 j hj
      exact ⟨q1.1.trans ((zv_up_n (show j ≠ c.1 by omega)).trans q2.1), (zv_up_n (show j ≠ c.1 by omega)).trans (q1.2.trans ((zv_up_n (show j ≠ c.1 by omega)).trans q2.2))⟩
    · exact zd_seg_fr a5 fun j j1 j2 => ⟨(b4 j (by have j2 : j < c.1 := j2; omega)).1.trans (zv_up_n (show j ≠ c.1 by have j2 : j < c.1 := j2; omega)), (zv_up_n (show j ≠ c.1 by have j2 : j < c.1 := j2; omega)).trans ((b4 j (by have j2 : j < c.1 := j2; omega)).2.trans (zv_up_n (show j ≠ c.1 by have j2 : j < c.1 := j2; omega)))⟩
    · exact zd_seg_fr b5 fun j j1 j2 => ⟨rfl, zv_up_n (show j ≠ c.1 by have j1 : c.1 + 1 ≤ j := j1; omega)⟩
    · show r.2.2.2.1 c.1 = 3 ∨ r.2.2.2.1 c.1 = 4
      rw [kc]; exact hk
    · exact zv_up_s
    · obtain ⟨k1, l1, u1⟩ := a7 w hw
      obtain ⟨k2, l2, u2⟩ := b7 ((s, c.1) :: w) (h1 w hw).1
      have l1 : (k1 : Int) ≤ 2 * (p - p0) := l1
      refine ⟨k1 + 1 + k2, by show ((k1 + 1 + k2 : Nat) : Int) ≤ 2 * (r.2.1 - p0); omega, fun n => ?_⟩
      rw [show n + (k1 + 1 + k2) = (n + k2 + 1) + k1 by omega, u1]
      show yp_C T len (n + k2 + 1) false w o p c = _
      rw [(h1 w hw).2, u2, hM w _ _ hw b6]
  · refine ⟨⟨r1, r2⟩, ⟨d1, d2⟩, fun h => absurd h e, fun _ w hw => ?_⟩
    obtain ⟨k1, l1, u1⟩ := a7 w hw
    obtain ⟨k2, l2, u2⟩ := rb e ((s, c.1) :: w) (h1 w hw).1
    have l1 : (k1 : Int) ≤ 2 * (p - p0) := l1
    refine ⟨k1 + 1 + k2, by omega, fun n => ?_⟩
    rw [show n + (k1 + 1 + k2) + 1 = ((n + k2 + 1) + 1) + k1 by omega, u1]
    show yp_C T len (n + k2 + 1 + 1) false w o p c = _
    rw [(h1 w hw).2, u2]
end ZCC
def yr_ic (R : Int → zCD → Option (Int × Int × zCD)) (T : Int → Int) (len o : Int) (W : zWT → Prop) (N : Int → Prop) : Prop := ∀ (p : Int) (c : zCD), 0 ≤ p → p ≤ len → 0 ≤ c.1 → c.1 ≤ p → zh_ok (R p c) (yp_CC T len o W N p c)
section ZRC
variable {rc : zRC} {T : Int → Int} {len o : Int}
theorem ze_landJump {j f : Int} {V : Int → Int} (h1 : 0 ≤ j) (h2 : j < 200) : zf_Law_landJump j f V = some (zv_up V j f) := by
  unfold zf_Law_landJump
  rw [if_neg (by omega), if_pos h2, zl_ci h1 (by omega)]
theorem yr_part_f {n : Nat} {f p c : Int} {K V : Int → Int} (hf : f ≠ 0) : zm_LawReader_readPart_l0 rc o len T (n + 1) f p c K V = some (f, p, c, K, V) := by
  show zm_LawReader_readPart_l0_b rc o len T (zm_LawReader_readPart_l0 rc o len T n) f p c K V = _
  unfold zm_LawReader_readPart_l0_b
  rw [if_neg hf]
theorem yr_part_l (hl : len ≤ 200) (ho : o ≤ 6) (hF : yr_ic (fun p c => rc 2 o 0 p len c.1 T c.2.1 c.2.2) T len o yp_wp yp_any) {p0 : Int} {c0 : zCD} (h0 : c0.1 ≤ p0) (h00 : 0 ≤ c0.1) : ∀ (m : Nat) (f p : Int) (c : zCD) (n : Nat), len - p ≤ m → m < n → yp_CC T len o yp_wq yp_any p0 c0 (f, p, c) →
    zh_ok (zm_LawReader_readPart_l0 rc o len T n f p c.1 c.2.1 c.2.2) (yp_CC T len o yp_wq yp_noa p0 c0) := by
  intro m
  induction m with
  | zero =>
    intro f p c n hm hn hs
    obtain ⟨n, rfl⟩ : ∃ q, n = q + 1 := ⟨n - 1, by omega⟩
    by_cases hf : f = 0
    · show zh_ok (zm_LawReader_readPart_l0_b rc o len T (zm_LawReader_readPart_l0 rc o len T n) f p c.1 c.2.1 c.2.2) _
      unfold zm_LawReader_readPart_l0_b
      rw [if_pos hf, if_neg (by omega)]
      exact zh_ret (yp_CC_N hs fun _ => by
        show yp_pk T len p ≠ 38
        unfold yp_pk
        rw [if_neg (by omega)]; decide)
    · rw [yr_part_f hf]
      exact zh_ret (yp_CC_N hs fun h => absurd h hf)
  | succ m ih =>
    intro f p c n hm hn hs
    obtain ⟨n, rfl⟩ : ∃ q, n = q + 1 := ⟨n - 1, by omega⟩
    by_cases hf : f = 0
    · subst hf
      by_cases hp : p < len
      · have p1 : 0 ≤ p := hs.1.1
        have c1 : 0 ≤ c.1 := hs.2.1.1
        have cp : c.1 ≤ p := by
          obtain ⟨a1, a2, a3, -⟩ := hs.2.2.1 rfl
          have a1 : p0 < p := a1
          have a3 : c.1 - c0.1 ≤ p - p0 := a3
          omega
        have pk : yp_pk T len p = T p := if_pos hp
        show zh_ok (zm_LawReader_readPart_l0_b rc o len T (zm_LawReader_readPart_l0 rc o len T n) 0 p c.1 c.2.1 c.2.2) _
        unfold zm_LawReader_readPart_l0_b
        rw [if_pos rfl, if_pos hp, zl_ci p1 (by omega), zi_w_id (x := p + 1) (by omega) (by omega)]
        by_cases h38 : T p = 38
        · rw [if_pos h38, ze_addStep c1 (by omega), zl_b]
          refine zh_bind (hF (p + 1) (yp_em 4 0 c) (by omega) (by omega) (by show 0 ≤ c.1 + 1; omega) (by show c.1 + 1 ≤ p + 1; omega)) fun r hr => ?_
          obtain ⟨q1, q2⟩ := yp_CC_step (s := 11) hl h0 hs hp hr (Or.inr rfl) (fun w hw => ⟨fun h => (by cases h), fun n => by
            have hd : yp_hd w ≠ 10 ∧ yp_hd w ≠ 11 := by
              rcases hw with h | h <;> rw [h] <;> decide
            rw [yp_C_f, if_neg hd.1, pk, h38, if_neg (by decide), if_pos rfl, yp_la_n ⟨hd.2, fun h => (by cases h)⟩]⟩) (fun w c' p' hw _ n => yp_C_ifn (by rcases hw with h | h <;> rw [h] <;> decide))
          rw [ze_landJump c1 (by omega), zl_b]
          by_cases he : r.1 = 0
          · obtain ⟨b3, q1⟩ := q1 he
            rw [he]
            exact ih 0 r.2.1 (yp_ln c.1 r.2.2) n (by omega) (by omega) q1
          · obtain ⟨n, rfl⟩ : ∃ q, n = q + 1 := ⟨n - 1, by omega⟩
            rw [yr_part_f he]
            exact zh_ret (yp_CC_N (q2 he (yp_ln c.1 r.2.2) hr.2.1.1 hr.2.1.2) fun h => absurd h he)
        rw [if_neg h38]
        exact zh_ret (yp_CC_N hs fun _ => by
          show yp_pk T len p ≠ 38
          rw [pk]; exact h38)
      · show zh_ok (zm_LawReader_readPart_l0_b rc o len T (zm_LawReader_readPart_l0 rc o len T n) 0 p c.1 c.2.1 c.2.2) _
        unfold zm_LawReader_readPart_l0_b
        rw [if_pos rfl, if_neg hp]
        exact zh_ret (yp_CC_N hs fun _ => by
          show yp_pk T len p ≠ 38
          unfold yp_pk
          rw [if_neg hp]; decide)
    · rw [yr_part_f hf]
      exact zh_ret (yp_CC_N hs fun h => absurd h hf)
theorem yr_part (hl : len ≤ 200) (ho : o ≤ 6) (hF : yr_ic (fun p c => rc 2 o 0 p len c.1 T c.2.1 c.2.2) T len o yp_wp yp_any) : yr_ic (fun p c => zm_LawReader_readPart rc o 0 p len c.1 T c.2.1 c.2.2) T len o yp_wq yp_noa := by
  intro p c p1 p2 c1 c2
  show zh_ok (zm_LawReader_readPart rc o 0 p len c.1 T c.2.1 c.2.2) _
  unfold zm_LawReader_readPart
  refine zh_bind (hF p c p1 p2 c1 c2) fun r hr => ?_
  refine zh_bind (yr_part_l hl ho hF c2 c1 (len - r.2.1).toNat r.1 r.2.1 r.2.2 zi_fu (by omega) (by have := hr.1.1; have : 1000 < zi_fu := (by decide); omega) (yp_CC_W hr fun w hw e => by subst e; rcases hw with h | h <;> cases h)) fun q hq => zh_ret hq
theorem yr_cond_f {n : Nat} {f p c : Int} {K V : Int → Int} (hf : f ≠ 0) : zm_LawReader_readCondition_l0 rc o len T (n + 1) f p c K V = some (f, p, c, K, V) := by
  show zm_LawReader_readCondition_l0_b rc o len T (zm_LawReader_readCondition_l0 rc o len T n) f p c K V = _
  unfold zm_LawReader_readCondition_l0_b
  rw [if_neg hf]
theorem yr_cond_l (hl : len ≤ 200) (ho : o ≤ 6) (hF : yr_ic (fun p c => rc 1 o 0 p len c.1 T c.2.1 c.2.2) T len o yp_wq yp_noa) {p0 : Int} {c0 : zCD} (h0 : c0.1 ≤ p0) (h00 : 0 ≤ c0.1) : ∀ (m : Nat) (f p : Int) (c : zCD) (n : Nat), len - p ≤ m → m < n → yp_CC T len o yp_wc yp_noa p0 c0 (f, p, c) →
    zh_ok (zm_LawReader_readCondition_l0 rc o len T n f p c.1 c.2.1 c.2.2) (yp_CC T len o yp_wc yp_noo p0 c0) := by
  intro m
  induction m with
  | zero =>
    intro f p c n hm hn hs
    obtain ⟨n, rfl⟩ : ∃ q, n = q + 1 := ⟨n - 1, by omega⟩
    by_cases hf : f = 0
    · show zh_ok (zm_LawReader_readCondition_l0_b rc o len T (zm_LawReader_readCondition_l0 rc o len T n) f p c.1 c.2.1 c.2.2) _
      unfold zm_LawReader_readCondition_l0_b
      rw [if_pos hf, if_neg (by omega)]
      exact zh_ret (yp_CC_N hs fun _ => by
        show yp_pk T len p ≠ 38 ∧ yp_pk T len p ≠ 124
        unfold yp_pk
        rw [if_neg (by omega)]; decide)
    · rw [yr_cond_f hf]
      exact zh_ret (yp_CC_N hs fun h => absurd h hf)
  | succ m ih =>
    intro f p c n hm hn hs
    obtain ⟨n, rfl⟩ : ∃ q, n = q + 1 := ⟨n - 1, by omega⟩
    by_cases hf : f = 0
    · subst hf
      have hN : yp_pk T len p ≠ 38 := (hs.2.2.1 rfl).2.2.2.2.2.1
      by_cases hp : p < len
      · have p1 : 0 ≤ p := hs.1.1
        have c1 : 0 ≤ c.1 := hs.2.1.1
        have cp : c.1 ≤ p := by
          obtain ⟨a1, a2, a3, -⟩ := hs.2.2.1 rfl
          have a1 : p0 < p := a1
          have a3 : c.1 - c0.1 ≤ p - p0 := a3
          omega
        have pk : yp_pk T len p = T p := if_pos hp
        show zh_ok (zm_LawReader_readCondition_l0_b rc o len T (zm_LawReader_readCondition_l0 rc o len T n) 0 p c.1 c.2.1 c.2.2) _
        unfold zm_LawReader_readCondition_l0_b
        rw [if_pos rfl, if_pos hp, zl_ci p1 (by omega), zi_w_id (x := p + 1) (by omega) (by omega)]
        by_cases h124 : T p = 124
        · rw [if_pos h124, ze_addStep c1 (by omega), zl_b]
          refine zh_bind (hF (p + 1) (yp_em 3 0 c) (by omega) (by omega) (by show 0 ≤ c.1 + 1; omega) (by show c.1 + 1 ≤ p + 1; omega)) fun r hr => ?_
          obtain ⟨q1, q2⟩ := yp_CC_step (s := 12) hl h0 hs hp hr (Or.inl rfl) (fun w hw => ⟨Or.inl rfl, fun n => by
            have hw : yp_hd w = 13 := hw
            rw [yp_C_f, if_neg (by rw [hw]; decide), pk, h124, if_neg (by decide), if_neg (by decide), if_pos rfl, yp_la_n ⟨by rw [hw]; decide, fun _ => by rw [hw]; decide⟩]⟩) (fun w c' p' hw hN n => yp_C_ifs (by have hw : yp_hd w = 13 := hw; rw [hw]; decide) hN)
          rw [ze_landJump c1 (by omega), zl_b]
          by_cases he : r.1 = 0
          · have hN2 := (hr.2.2.1 he).2.2.2.2.2.1
            obtain ⟨b3, q1⟩ := q1 he
            rw [he]
            exact ih 0 r.2.1 (yp_ln c.1 r.2.2) n (by omega) (by omega) (yp_CC_N q1 fun _ => hN2)
          · obtain ⟨n, rfl⟩ : ∃ q, n = q + 1 := ⟨n - 1, by omega⟩
            rw [yr_cond_f he]
            exact zh_ret (yp_CC_N (q2 he (yp_ln c.1 r.2.2) hr.2.1.1 hr.2.1.2) fun h => absurd h he)
        rw [if_neg h124]
        exact zh_ret (yp_CC_N hs fun _ => by
          show yp_pk T len p ≠ 38 ∧ yp_pk T len p ≠ 124
          exact ⟨hN, by rw [pk]; exact h124⟩)
      · show zh_ok (zm_LawReader_readCondition_l0_b rc o len T (zm_LawReader_readCondition_l0 rc o len T n) 0 p c.1 c.2.1 c.2.2) _
        unfold zm_LawReader_readCondition_l0_b
        rw [if_pos rfl, if_neg hp]
        exact zh_ret (yp_CC_N hs fun _ => by
          show yp_pk T len p ≠ 38 ∧ yp_pk T len p ≠ 124
          unfold yp_pk
          rw [if_neg hp]; decide)
    · rw [yr_cond_f hf]
      exact zh_ret (yp_CC_N hs fun h => absurd h hf)
theorem yr_cond (hl : len ≤ 200) (ho : o ≤ 6) (hF : yr_ic (fun p c => rc 1 o 0 p len c.1 T c.2.1 c.2.2) T len o yp_wq yp_noa) : yr_ic (fun p c => zm_LawReader_readCondition rc o 0 p len c.1 T c.2.1 c.2.2) T len o yp_wc yp_noo := by
  intro p c p1 p2 c1 c2
  show zh_ok (zm_LawReader_readCondition rc o 0 p len c.1 T c.2.1 c.2.2) _
  unfold zm_LawReader_readCondition
  refine zh_bind (hF p c p1 p2 c1 c2) fun r hr => ?_
  refine zh_bind (yr_cond_l hl ho hF c2 c1 (len - r.2.1).toNat r.1 r.2.1 r.2.2 zi_fu (by omega) (by have := hr.1.1; have : 1000 < zi_fu := (by decide); omega) (yp_CC_W hr fun w hw => Or.inr hw)) fun q hq => zh_ret hq
/-- two sums compared -/
theorem yr_sumS {p p' : Int} {c c' : zCD} (hl : len ≤ 200) (p1 : 0 ≤ p) (p2 : p' ≤ len) (h : yp_okE T len o (15 - 2 * o) yp_ta yp_nos p c p' c') : yp_S T len 1000 true [] o p c = some (.inr (p', c')) := by
  obtain ⟨a1, a2, a3, a4, a5, a6, a7⟩ := h
  obtain ⟨k, l, u⟩ := a7 [] (fun s w e => by cases e)
  have a6 : yp_ss (yp_pk T len p') = -1 := a6
  have := u (1000 - k)
  rw [show 1000 - k + k = 1000 by omega] at this
  rw [this, show 1000 - k = (999 - k) + 1 by omega, yp_S_f, a6, if_neg (fun h => h rfl), if_neg (by simp)]
  rfl
theorem yr_sumN {p f : Int} {c : zCD} (hl : len ≤ 200) (p1 : 0 ≤ p) (h : yp_noE T len o yp_ta p c f) : yp_S T len 1000 true [] o p c = some (.inl f) := by
  obtain ⟨k, l, u⟩ := h [] (fun s w e => by cases e)
  have := u (1000 - k - 1)
  rw [show 1000 - k - 1 + k + 1 = 1000 by omega] at this
  exact this
theorem yr_comp (hl : len ≤ 200) (hT : ∀ j, 0 ≤ j → j < 220 → 0 ≤ T j ∧ T j ≤ 255) (o1 : 1 ≤ o) (o2 : o ≤ 6) {p : Int} {c : zCD} (p1 : 0 ≤ p) (p2 : p ≤ len) (c1 : 0 ≤ c.1) (c2 : c.1 ≤ p) (h33 : yp_pk T len p ≠ 33) (h40 : yp_pk T len p ≠ 40) : zh_ok (zf_LawReader_readComparison o 0 p len c.1 T c.2.1 c.2.2) (yp_CC T len o yp_wp yp_any p c) := by
  unfold zf_LawReader_readComparison
  have hS := yr_readSum (T := T) (len := len) (o := o) hl hT (by omega) o2
  refine zh_bind (hS p c p1 p2 c1 c2) fun r hr => ?_
  obtain ⟨⟨r1, r2⟩, ⟨r3, r4⟩, ro, rb⟩ := hr
  by_cases he : r.1 = 0
  · have ro := ro he
    have hS1 := yr_sumS hl p1 r2 ro
    obtain ⟨a1, a2, a3, a4, ⟨ρ1, a5⟩, a6, -⟩ := ro
    rw [if_pos he, ze_peek r1 (by omega), zl_b, he]
    have step : ∀ kk, yp_cs (yp_pk T len r.2.1) = kk → 10 ≤ kk → kk ≤ 12 → zh_ok ((zf_LawReader_readSum o 0 (zi_w (r.2.1 + 1)) len r.2.2.1 T r.2.2.2.1 r.2.2.2.2).bind fun r5 => ((zf_Law_addStep kk 0 r5.2.2.1 r5.2.2.2.1 r5.2.2.2.2).bind fun r7 => (some (r5.1, r5.2.1, r7.2.1, r7.2.2.1, r7.2.2.2)))) (yp_CC T len o yp_wp yp_any p c) := by
      intro kk hk k1 k2
      have hp : r.2.1 < len := yp_pk_lt (T := T) (fun h => by rw [h] at hk; have : yp_cs (-1) = -1 := (by decide); omega)
      rw [zi_w_id (x := r.2.1 + 1) (by omega) (by omega)]
      refine zh_bind (hS (r.2.1 + 1) r.2.2 (by omega) (by omega) r3 (by omega)) fun q hq => ?_
      obtain ⟨⟨q1, q2⟩, ⟨q3, q4⟩, qo, qb⟩ := hq
      by_cases hq0 : q.1 = 0
      · have qo := qo hq0
        have hS2 := yr_sumS hl (by omega) q2 qo
        obtain ⟨b1, b2, b3, b4, ⟨ρ2, b5⟩, b6, -⟩ := qo
        rw [ze_addStep q3 (by omega), zl_b, hq0]
        refine zh_ret ⟨⟨q1, q2⟩, ⟨?_, ?_⟩, fun _ => ⟨?_, ?_, ?_, fun j hj => ?_, ⟨_, zd_seg_nd (zg_bin (nd := 15 - 2 * o + 1) (nd2 := 15 - 2 * o) (b := r.2.2.1) (c := q.2.2.1) (ρ1 := ρ1) (ρ2 := ρ2) ?_ ?_ ?_ ?_ ?_ (by omega) (by omega) (fun _ => ?_)) (by omega)⟩, trivial, fun w _ => ⟨1, ?_, fun n => ?_⟩⟩, fun h => absurd rfl h⟩
        · show 0 ≤ q.2.2.1 + 1; omega
        · show q.2.2.1 + 1 ≤ 200; omega
        · show p < q.2.1; omega
        · show c.1 < q.2.2.1 + 1; omega
        · show q.2.2.1 + 1 - c.1 ≤ q.2.1 - p; omega
        · have u1 := b4 j (by omega)
          have u2 := a4 j hj
          exact ⟨(zv_up_n (show j ≠ q.2.2.1 by omega)).trans (u1.1.trans u2.1), (zv_up_n (show j ≠ q.2.2.1 by omega)).trans (u1.2.trans u2.2)⟩
        · exact zd_seg_nd (zd_seg_fr a5 fun j j1 j2 => ⟨(zv_up_n (show j ≠ q.2.2.1 by omega)).trans (b4 j j2).1, (zv_up_n (show j ≠ q.2.2.1 by omega)).trans (b4 j j2).2⟩) (by omega)
        · exact zd_seg_fr b5 fun j j1 j2 => ⟨zv_up_n (show j ≠ q.2.2.1 by omega), zv_up_n (show j ≠ q.2.2.1 by omega)⟩
        · show 5 ≤ zv_up q.2.2.2.1 q.2.2.1 kk q.2.2.1
          rw [zv_up_s]; omega
        · show zv_up q.2.2.2.1 q.2.2.1 kk q.2.2.1 ≤ 12
          rw [zv_up_s]; omega
        · exact zv_up_s
        · show 10 ≤ zv_up q.2.2.2.1 q.2.2.1 kk q.2.2.1
          rw [zv_up_s]; omega
        · show ((1 : Nat) : Int) ≤ 2 * (q.2.1 - p); omega
        · rw [yp_C_t, if_neg h33, if_neg h40, hS1, zl_b]
          show (if yp_cs (yp_pk T len r.2.1) = -1 then _ else _) = _
          rw [if_neg (by omega), hS2, zl_b]
          show yp_C T len n false w o q.2.1 (yp_em (yp_cs (yp_pk T len r.2.1)) 0 q.2.2) = _
          rw [hk]
          rfl
      · have qb := yr_sumN hl (by omega) (qb hq0)
        obtain ⟨a, c', K', V', e1, e2, e3, -⟩ := ze_addStep_a (k := kk) (v := 0) (K := q.2.2.2.1) (V := q.2.2.2.2) q3 q4
        rw [e1, zl_b]
        refine zh_ret ⟨⟨q1, q2⟩, ⟨e2, e3⟩, fun h => absurd h hq0, fun _ w _ => ⟨0, by omega, fun n => ?_⟩⟩
        show yp_C T len (n + 1) true w o p c = some (.inl q.1)
        rw [yp_C_t, if_neg h33, if_neg h40, hS1, zl_b]
        show (if yp_cs (yp_pk T len r.2.1) = -1 then _ else _) = _
        rw [if_neg (by omega), qb, zl_b]
        rfl
    by_cases h60 : yp_pk T len r.2.1 = 60
    · rw [if_pos h60]
      exact step 10 (by rw [h60]; rfl) (by decide) (by decide)
    rw [if_neg h60]
    by_cases h62 : yp_pk T len r.2.1 = 62
    · rw [if_pos h62]
      exact step 11 (by rw [h62]; rfl) (by decide) (by decide)
    rw [if_neg h62]
    by_cases h61 : yp_pk T len r.2.1 = 61
    · rw [if_pos h61]
      exact step 12 (by rw [h61]; rfl) (by decide) (by decide)
    rw [if_neg h61, ze_fail r1 (by omega) (by decide) (by decide), zl_b]
    refine zh_ret ⟨⟨r1, r2⟩, ⟨r3, r4⟩, fun h => ?_, fun _ w _ => ⟨0, by omega, fun n => ?_⟩⟩
    · have h : -1000 * 1 - r.2.1 = 0 := h
      omega
    · show yp_C T len (n + 1) true w o p c = some (.inl (-1000 * 1 - r.2.1))
      rw [yp_C_t, if_neg h33, if_neg h40, hS1, zl_b]
      show (if yp_cs (yp_pk T len r.2.1) = -1 then _ else _) = _
      rw [if_pos (by unfold yp_cs; rw [if_neg h60, if_neg h62, if_neg h61])]
      rfl
  · rw [if_neg he]
    have rb := yr_sumN hl p1 (rb he)
    refine zh_ret ⟨⟨r1, r2⟩, ⟨r3, r4⟩, fun h => absurd h he, fun _ w _ => ⟨0, by omega, fun n => ?_⟩⟩
    show yp_C T len (n + 1) true w o p c = some (.inl r.1)
    rw [yp_C_t, if_neg h33, if_neg h40, rb, zl_b]
    rfl
theorem yr_piece (hl : len ≤ 200) (o1 : 1 ≤ o) (o2 : o ≤ 6) (hT : ∀ j, 0 ≤ j → j < 220 → 0 ≤ T j ∧ T j ≤ 255) (hP : o < 6 → yr_ic (fun p c => rc 2 (o + 1) 0 p len c.1 T c.2.1 c.2.2) T len (o + 1) yp_wp yp_any) (hC : o < 6 → yr_ic (fun p c => rc 0 (o + 1) 0 p len c.1 T c.2.1 c.2.2) T len (o + 1) yp_wc yp_noo) : yr_ic (fun p c => zm_LawReader_readPiece rc o 0 p len c.1 T c.2.1 c.2.2) T len o yp_wp yp_any := by
  intro p c p1 p2 c1 c2
  show zh_ok (zm_LawReader_readPiece rc o 0 p len c.1 T c.2.1 c.2.2) _
  unfold zm_LawReader_readPiece
  rw [ze_peek p1 (by omega), zl_b, if_pos rfl]
  by_cases h33 : yp_pk T len p = 33
  · have hp : p < len := yp_pk_lt (T := T) (by omega)
    rw [if_pos h33]
    by_cases ho6 : o < 6
    · rw [if_pos ho6, zi_w_id (x := o + 1) (by omega) (by omega), zi_w_id (x := p + 1) (by omega) (by omega)]
      refine zh_bind (hP ho6 (p + 1) c (by omega) (by omega) c1 (by omega)) fun r hr => ?_
      obtain ⟨⟨r1, r2⟩, ⟨r3, r4⟩, ro, rb⟩ := hr
      have one : ∀ w n, yp_C T len (n + 1) true w o p c = yp_C T len n true ((10, 0) :: w) (o + 1) (p + 1) c := fun w n => by
        rw [yp_C_t, if_pos h33, if_neg (by omega)]
      by_cases he : r.1 = 0
      · obtain ⟨b1, b2, b3, b4, ⟨ρ, b5⟩, b6, b7⟩ := ro he
        rw [ze_addStep r3 (by omega), zl_b, he]
        refine zh_ret ⟨⟨r1, r2⟩, ⟨?_, ?_⟩, fun _ => ⟨?_, ?_, ?_, fun j hj => ?_, ⟨_, zg_not (b := r.2.2.1) (ρ1 := ρ) ?_ ?_ ?_ (by decide)⟩, trivial, fun w _ => ?_⟩, fun h => absurd rfl h⟩
        · show 0 ≤ r.2.2.1 + 1; omega
        · show r.2.2.1 + 1 ≤ 200; omega
        · show p < r.2.1; omega
        · show c.1 < r.2.2.1 + 1; omega
        · show r.2.2.1 + 1 - c.1 ≤ r.2.1 - p; omega
        · exact ⟨(zv_up_n (show j ≠ r.2.2.1 by omega)).trans (b4 j hj).1, (zv_up_n (show j ≠ r.2.2.1 by omega)).trans (b4 j hj).2⟩
        · exact zd_seg_fr b5 fun j j1 j2 => ⟨zv_up_n (show j ≠ r.2.2.1 by omega), zv_up_n (show j ≠ r.2.2.1 by omega)⟩
        · exact zv_up_s
        · exact zv_up_s
        · obtain ⟨k, l, u⟩ := b7 ((10, 0) :: w) (fun h => (by cases h))
          refine ⟨1 + k + 1, by show ((1 + k + 1 : Nat) : Int) ≤ 2 * (r.2.1 - p); omega, fun n => ?_⟩
          rw [show n + (1 + k + 1) = (n + 1 + k) + 1 by omega, one, u, yp_C_f, if_pos (show yp_hd ((10, 0) :: w) = 10 from rfl), show o + 1 - 1 = o by omega]
          rfl
      · obtain ⟨a, c', K', V', e1, e2, e3, -⟩ := ze_addStep_a (k := 2) (v := 0) (K := r.2.2.2.1) (V := r.2.2.2.2) r3 r4
        rw [e1, zl_b]
        refine zh_ret ⟨⟨r1, r2⟩, ⟨e2, e3⟩, fun h => absurd h he, fun _ w _ => ?_⟩
        obtain ⟨k, l, u⟩ := rb he ((10, 0) :: w) (fun h => (by cases h))
        refine ⟨1 + k, by omega, fun n => ?_⟩
        rw [show n + (1 + k) + 1 = (n + k + 1) + 1 by omega, one, u]
    · rw [if_neg ho6, ze_fail p1 (by omega) (by decide) (by decide), zl_b]
      refine zh_ret ⟨⟨p1, p2⟩, ⟨c1, (show c.1 ≤ 200 by omega)⟩, fun h => ?_, fun _ w _ => ⟨0, by omega, fun n => ?_⟩⟩
      · have h : -1000 * 5 - p = 0 := h
        omega
      · show yp_C T len (n + 1) true w o p c = some (.inl (-1000 * 5 - p))
        rw [yp_C_t, if_pos h33, if_pos (by omega)]
        rfl
  · rw [if_neg h33]
    by_cases h40 : yp_pk T len p = 40
    · have hp : p < len := yp_pk_lt (T := T) (by omega)
      rw [if_pos h40]
      by_cases ho6 : o < 6
      · rw [if_pos ho6, zi_w_id (x := o + 1) (by omega) (by omega), zi_w_id (x := p + 1) (by omega) (by omega)]
        refine zh_bind (hC ho6 (p + 1) c (by omega) (by omega) c1 (by omega)) fun r hr => ?_
        obtain ⟨⟨r1, r2⟩, ⟨r3, r4⟩, ro, rb⟩ := hr
        have one : ∀ w n, yp_C T len (n + 1) true w o p c = yp_C T len n true ((13, 0) :: w) (o + 1) (p + 1) c := fun w n => by
          rw [yp_C_t, if_neg h33, if_pos h40, if_neg (by omega)]
        by_cases he : r.1 = 0
        · obtain ⟨b1, b2, b3, b4, ⟨ρ, b5⟩, b6, b7⟩ := ro he
          have b6 : yp_pk T len r.2.1 ≠ 38 ∧ yp_pk T len r.2.1 ≠ 124 := b6
          rw [he, ze_skip r1 (by omega) (by omega), zl_b]
          by_cases h41 : yp_pk T len r.2.1 = 41
          · have hp3 : r.2.1 < len := yp_pk_lt (T := T) (by omega)
            rw [if_pos h41]
            refine zh_ret ⟨⟨?_, ?_⟩, ⟨r3, r4⟩, fun _ => ⟨?_, b2, ?_, b4, ⟨ρ, b5⟩, trivial, fun w hw => ?_⟩, fun h => absurd rfl h⟩
            · show 0 ≤ r.2.1 + 1; omega
            · show r.2.1 + 1 ≤ len; omega
            · show p < r.2.1 + 1; omega
            · show r.2.2.1 - c.1 ≤ r.2.1 + 1 - p; omega
            · obtain ⟨k, l, u⟩ := b7 ((13, 0) :: w) rfl
              have hw : w ≠ [] := hw
              refine ⟨1 + k + 1, by show ((1 + k + 1 : Nat) : Int) ≤ 2 * (r.2.1 + 1 - p); omega, fun n => ?_⟩
              rw [show n + (1 + k + 1) = (n + 1 + k) + 1 by omega, one, u, yp_C_f, if_neg (show ¬ yp_hd ((13, 0) :: w) = 10 from (by decide : ¬ (13 : Int) = 10)), if_pos h41, yp_la_n (w := (13, 0) :: w) ⟨(show (13 : Int) ≠ 11 by decide), fun _ => (show (13 : Int) ≠ 12 by decide)⟩]
              show (if w = [] then _ else _) = _
              rw [if_neg hw, show o + 1 - 1 = o by omega]
              rfl
          · rw [if_neg h41]
            refine zh_ret ⟨⟨r1, r2⟩, ⟨r3, r4⟩, fun h => ?_, fun _ w _ => ?_⟩
            · have h : -1000 - r.2.1 = 0 := h
              omega
            · obtain ⟨k, l, u⟩ := b7 ((13, 0) :: w) rfl
              refine ⟨1 + k, by omega, fun n => ?_⟩
              rw [show n + (1 + k) + 1 = (n + 1 + k) + 1 by omega, one, u, yp_C_f, if_neg (show ¬ yp_hd ((13, 0) :: w) = 10 from (by decide : ¬ (13 : Int) = 10)), if_neg h41, if_neg b6.1, if_neg b6.2]
        · rw [ze_skipf he, zl_b]
          refine zh_ret ⟨⟨r1, r2⟩, ⟨r3, r4⟩, fun h => absurd h he, fun _ w _ => ?_⟩
          obtain ⟨k, l, u⟩ := rb he ((13, 0) :: w) rfl
          refine ⟨1 + k, by omega, fun n => ?_⟩
          rw [show n + (1 + k) + 1 = (n + k + 1) + 1 by omega, one, u]
      · rw [if_neg ho6, ze_fail p1 (by omega) (by decide) (by decide), zl_b]
        refine zh_ret ⟨⟨p1, p2⟩, ⟨c1, (show c.1 ≤ 200 by omega)⟩, fun h => ?_, fun _ w _ => ⟨0, by omega, fun n => ?_⟩⟩
        · have h : -1000 * 5 - p = 0 := h
          omega
        · show yp_C T len (n + 1) true w o p c = some (.inl (-1000 * 5 - p))
          rw [yp_C_t, if_neg h33, if_pos h40, if_pos (by omega)]
          rfl
    · rw [if_neg h40]
      exact zh_bind (yr_comp hl hT o1 o2 p1 p2 c1 c2 h33 h40) fun q hq => zh_ret hq
end ZRC
theorem yr_allC {T : Int → Int} {len : Int} (hl : len ≤ 200) (hT : ∀ j, 0 ≤ j → j < 220 → 0 ≤ T j ∧ T j ≤ 255) : ∀ (d : Nat) (o : Int), o + d = 6 → 1 ≤ o → ∀ n, yr_ic (fun p c => zg_LawReader_readCondition (n + 3 * d + 3) 0 o 0 p len c.1 T c.2.1 c.2.2) T len o yp_wc yp_noo ∧ yr_ic (fun p c => zg_LawReader_readCondition (n + 3 * d + 1) 2 o 0 p len c.1 T c.2.1 c.2.2) T len o yp_wp yp_any := by
  intro d
  induction d with
  | zero =>
    intro o ho o1 n
    have hp : ∀ n, yr_ic (fun p c => zg_LawReader_readCondition (n + 1) 2 o 0 p len c.1 T c.2.1 c.2.2) T len o yp_wp yp_any := fun n => yr_piece (rc := zg_LawReader_readCondition n) hl o1 (by omega) hT (fun h => absurd h (by omega)) (fun h => absurd h (by omega))
    refine ⟨?_, hp n⟩
    refine yr_cond (rc := zg_LawReader_readCondition (n + 2)) hl (by omega) ?_
    exact yr_part (rc := zg_LawReader_readCondition (n + 1)) hl (by omega) (hp n)
  | succ d ih =>
    intro o ho o1 n
    have hp : ∀ n, yr_ic (fun p c => zg_LawReader_readCondition (n + 3 * (d + 1) + 1) 2 o 0 p len c.1 T c.2.1 c.2.2) T len o yp_wp yp_any := fun n => yr_piece (rc := zg_LawReader_readCondition (n + 3 * (d + 1))) hl o1 (by omega) hT (fun _ => (by
      have := (ih (o + 1) (by omega) (by omega) (n + 2)).2
      rw [show n + 2 + 3 * d + 1 = n + 3 * (d + 1) by omega] at this
      exact this)) (fun _ => (ih (o + 1) (by omega) (by omega) n).1)
    refine ⟨?_, hp n⟩
    refine yr_cond (rc := zg_LawReader_readCondition (n + 3 * (d + 1) + 2)) hl (by omega) ?_
    exact yr_part (rc := zg_LawReader_readCondition (n + 3 * (d + 1) + 1)) hl (by omega) (hp n)
theorem yr_readCondition {T : Int → Int} {len : Int} (hl : len ≤ 200) (hT : ∀ j, 0 ≤ j → j < 220 → 0 ≤ T j ∧ T j ≤ 255) : yr_ic (fun p c => zf_LawReader_readCondition 1 0 p len c.1 T c.2.1 c.2.2) T len 1 yp_wc yp_noo := (yr_allC hl hT 5 1 rfl (by decide) 22).1
