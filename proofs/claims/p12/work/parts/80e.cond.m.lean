/-! 80e.cond, 80f.msum, 80g.mcond, 80g2.mcomp, 80h.mcond2, 80i.mcond3, 81a.clause, 81b.clause2, 81c.clause3, 81d.law -/
section
/-! Conditions: the machine, and the class's reader against it. -/
def yp_cs (c : Int) : Int := if c = 60 then 10 else if c = 62 then 11 else if c = 61 then 12 else -1
theorem yp_cs_in (c : Int) : yp_cs c = -1 ∨ (10 ≤ yp_cs c ∧ yp_cs c ≤ 12) := by unfold yp_cs; (repeat' split) <;> simp
abbrev zWT : Type := List (Int × Int)
def yp_hd : zWT → Int
  | [] => 0
  | s :: _ => s.1
def yp_la (all : Bool) : zWT → zCD → zWT × zCD
  | [], c => ([], c)
  | s :: w, c => if s.1 = 11 ∨ (all = true ∧ s.1 = 12) then yp_la all w (yp_ln s.2 c) else (s :: w, c)
/-- true: a piece is due; false: behind one -/
def yp_C (T : Int → Int) (len : Int) : Nat → Bool → zWT → Int → Int → zCD → Option (Int ⊕ (Int × zCD))
  | 0, _, _, _, _, _ => none
  | n + 1, true, w, o, p, c => if yp_pk T len p = 33 then (if o = 6 then some (.inl (-5000 - p)) else yp_C T len n true ((10, 0) :: w) (o + 1) (p + 1) c)
    else if yp_pk T len p = 40 then (if o = 6 then some (.inl (-5000 - p)) else yp_C T len n true ((13, 0) :: w) (o + 1) (p + 1) c)
    else (yp_S T len 1000 true [] o p c).bind fun r => Sum.elim (fun f => some (.inl f)) (fun q => if yp_cs (yp_pk T len q.1) = -1 then some (.inl (-1000 - q.1)) else (yp_S T len 1000 true [] o (q.1 + 1) q.2).bind fun r2 => Sum.elim (fun f => some (.inl f)) (fun q2 => yp_C T len n false w o q2.1 (yp_em (yp_cs (yp_pk T len q.1)) 0 q2.2)) r2) r
  | n + 1, false, w, o, p, c => if yp_hd w = 10 then yp_C T len n false w.tail (o - 1) p (yp_em 2 0 c)
    else if yp_pk T len p = 41 then (if (yp_la true w c).1.tail = [] then some (.inr (p + 1, (yp_la true w c).2)) else yp_C T len n false (yp_la true w c).1.tail (o - 1) (p + 1) (yp_la true w c).2)
    else if yp_pk T len p = 38 then yp_C T len n true ((11, (yp_la false w c).2.1) :: (yp_la false w c).1) o (p + 1) (yp_em 4 0 (yp_la false w c).2)
    else if yp_pk T len p = 124 then yp_C T len n true ((12, (yp_la true w c).2.1) :: (yp_la true w c).1) o (p + 1) (yp_em 3 0 (yp_la true w c).2)
    else some (.inl (-1000 - p))
section ZPC
variable {T : Int → Int} {len o p : Int} {c : zCD} {w : zWT} {n : Nat}
theorem yp_C_t : yp_C T len (n + 1) true w o p c = if yp_pk T len p = 33 then (if o = 6 then some (.inl (-5000 - p)) else yp_C T len n true ((10, 0) :: w) (o + 1) (p + 1) c)
    else if yp_pk T len p = 40 then (if o = 6 then some (.inl (-5000 - p)) else yp_C T len n true ((13, 0) :: w) (o + 1) (p + 1) c)
    else (yp_S T len 1000 true [] o p c).bind fun r => Sum.elim (fun f => some (.inl f)) (fun q => if yp_cs (yp_pk T len q.1) = -1 then some (.inl (-1000 - q.1)) else (yp_S T len 1000 true [] o (q.1 + 1) q.2).bind fun r2 => Sum.elim (fun f => some (.inl f)) (fun q2 => yp_C T len n false w o q2.1 (yp_em (yp_cs (yp_pk T len q.1)) 0 q2.2)) r2) r := rfl
theorem yp_C_f : yp_C T len (n + 1) false w o p c = if yp_hd w = 10 then yp_C T len n false w.tail (o - 1) p (yp_em 2 0 c)
    else if yp_pk T len p = 41 then (if (yp_la true w c).1.tail = [] then some (.inr (p + 1, (yp_la true w c).2)) else yp_C T len n false (yp_la true w c).1.tail (o - 1) (p + 1) (yp_la true w c).2)
    else if yp_pk T len p = 38 then yp_C T len n true ((11, (yp_la false w c).2.1) :: (yp_la false w c).1) o (p + 1) (yp_em 4 0 (yp_la false w c).2)
    else if yp_pk T len p = 124 then yp_C T len n true ((12, (yp_la true w c).2.1) :: (yp_la true w c).1) o (p + 1) (yp_em 3 0 (yp_la true w c).2)
    else some (.inl (-1000 - p)) := rfl
theorem yp_la_c {all : Bool} {s : Int × Int} : yp_la all (s :: w) c = if s.1 = 11 ∨ (all = true ∧ s.1 = 12) then yp_la all w (yp_ln s.2 c) else (s :: w, c) := rfl
theorem yp_la_n {all : Bool} (h : yp_hd w ≠ 11 ∧ (all = true → yp_hd w ≠ 12)) : yp_la all w c = (w, c) := by
  cases w with
  | nil => rfl
  | cons s w =>
    rw [yp_la_c, if_neg]
    intro hh
    have h1 : s.1 ≠ 11 := h.1
    rcases hh with k | ⟨k1, k2⟩
    · exact h1 k
    · exact h.2 k1 k2
theorem yp_C_ifn {j : Int} (hw : yp_hd w ≠ 10) : yp_C T len n false ((11, j) :: w) o p c = yp_C T len n false w o p (yp_ln j c) := by
  cases n with
  | zero => rfl
  | succ n =>
    have q : ∀ all, yp_la all ((11, j) :: w) c = yp_la all w (yp_ln j c) := fun all => by rw [yp_la_c, if_pos (Or.inl rfl)]
    rw [yp_C_f, yp_C_f, q, q, if_neg hw, if_neg (show ¬ yp_hd ((11, j) :: w) = 10 from (by decide : ¬ (11 : Int) = 10))]
theorem yp_C_ifs {j : Int} (hw : yp_hd w ≠ 10) (hp : yp_pk T len p ≠ 38) : yp_C T len n false ((12, j) :: w) o p c = yp_C T len n false w o p (yp_ln j c) := by
  cases n with
  | zero => rfl
  | succ n =>
    have q : yp_la true ((12, j) :: w) c = yp_la true w (yp_ln j c) := by rw [yp_la_c, if_pos (Or.inr ⟨rfl, rfl⟩)]
    rw [yp_C_f, yp_C_f, q, if_neg hw, if_neg (show ¬ yp_hd ((12, j) :: w) = 10 from (by decide : ¬ (12 : Int) = 10)), if_neg hp, if_neg hp]
end ZPC
def yp_okC (T : Int → Int) (len o : Int) (W : zWT → Prop) (N : Int → Prop) (p : Int) (c : zCD) (p' : Int) (c' : zCD) : Prop :=
  p < p' ∧ c.1 < c'.1 ∧ c'.1 - c.1 ≤ p' - p ∧ (∀ j, j < c.1 → c'.2.1 j = c.2.1 j ∧ c'.2.2 j = c.2.2 j) ∧ (∃ ρ, zd_seg true c'.2.1 c'.2.2 c.1 c'.1 16 ρ) ∧ N (yp_pk T len p') ∧
  ∀ w, W w → ∃ k : Nat, (k : Int) ≤ 2 * (p' - p) ∧ ∀ n, yp_C T len (n + k) true w o p c = yp_C T len n false w o p' c'
def yp_noC (T : Int → Int) (len o : Int) (W : zWT → Prop) (p : Int) (c : zCD) (f : Int) : Prop :=
  ∀ w, W w → ∃ k : Nat, (k : Int) ≤ 2 * (len - p) ∧ ∀ n, yp_C T len (n + k + 1) true w o p c = some (.inl f)
def yp_CC (T : Int → Int) (len o : Int) (W : zWT → Prop) (N : Int → Prop) (p : Int) (c : zCD) (r : Int × Int × zCD) : Prop :=
  (0 ≤ r.2.1 ∧ r.2.1 ≤ len) ∧ (0 ≤ r.2.2.1 ∧ r.2.2.1 ≤ 200) ∧ (r.1 = 0 → yp_okC T len o W N p c r.2.1 r.2.2) ∧ (r.1 ≠ 0 → yp_noC T len o W p c r.1)
def yp_wp (w : zWT) : Prop := w ≠ []
def yp_wq (w : zWT) : Prop := yp_hd w = 12 ∨ yp_hd w = 13
def yp_wc (w : zWT) : Prop := yp_hd w = 13
def yp_noa (x : Int) : Prop := x ≠ 38
def yp_noo (x : Int) : Prop := x ≠ 38 ∧ x ≠ 124
section ZCC
variable {T : Int → Int} {len o : Int} {W W2 : zWT → Prop} {N N2 : Int → Prop} {p0 p s kk x : Int} {c0 c : zCD} {r : Int × Int × zCD} {all : Bool}
theorem yp_CC_N (h : yp_CC T len o W N2 p0 c0 r) (k : r.1 = 0 → N (yp_pk T len r.2.1)) : yp_CC T len o W N p0 c0 r :=
  ⟨h.1, h.2.1, fun e => (by
    obtain ⟨q1, q2, q3, q4, q5, q6, q7⟩ := h.2.2.1 e
    exact ⟨q1, q2, q3, q4, q5, k e, q7⟩), h.2.2.2⟩
theorem yp_CC_W (h : yp_CC T len o W N p0 c0 r) (k : ∀ w, W2 w → W w) : yp_CC T len o W2 N p0 c0 r :=
  ⟨h.1, h.2.1, fun e => (by
    obtain ⟨q1, q2, q3, q4, q5, q6, q7⟩ := h.2.2.1 e
    exact ⟨q1, q2, q3, q4, q5, q6, fun w hw => q7 w (k w hw)⟩), fun e w hw => h.2.2.2 e w (k w hw)⟩
theorem yp_CC_step (hl : len ≤ 200) (h0 : c0.1 ≤ p0) (hs : yp_CC T len o W N p0 c0 (0, p, c)) (hp : p < len) (hr : yp_CC T len o W2 N2 (p + 1) (yp_em kk 0 c) r) (hk : kk = 3 ∨ kk = 4)
    (h1 : ∀ w, W w → W2 ((s, c.1) :: w) ∧ ∀ n, yp_C T len (n + 1) false w o p c = yp_C T len n true ((s, c.1) :: w) o (p + 1) (yp_em kk 0 c))
    (hM : ∀ w c' p', W w → N2 (yp_pk T len p') → ∀ n, yp_C T len n false ((s, c.1) :: w) o p' c' = yp_C T len n false w o p' (yp_ln c.1 c')) :
    (r.1 = 0 → p + 1 < r.2.1 ∧ yp_CC T len o W yp_any p0 c0 (0, r.2.1, yp_ln c.1 r.2.2)) ∧ (r.1 ≠ 0 → ∀ c'' : zCD, 0 ≤ c''.1 → c''.1 ≤ 200 → yp_CC T len o W N p0 c0 (r.1, r.2.1, c'')) := by
  obtain ⟨⟨p1, p2⟩, ⟨c1, c2⟩, hs, -⟩ := hs
  obtain ⟨a1, a2, a3, a4, ⟨ρ1, a5⟩, -, a7⟩ := hs rfl
  obtain ⟨⟨r1, r2⟩, ⟨r3, r4⟩, ro, rb⟩ := hr
  have a3 : c.1 - c0.1 ≤ p - p0 := a3
  have a2 : c0.1 < c.1 := a2
  have a1 : p0 < p := a1
  have p2 : p ≤ len := p2
  refine ⟨fun e => ?_, fun e c'' d1 d2 => ?_⟩
  · obtain ⟨b1, b2, b3, b4, ⟨ρ2, b5⟩, b6, b7⟩ := ro e
    have b2 : c.1 + 1 < r.2.2.1 := b2
    have b3 : r.2.2.1 - (c.1 + 1) ≤ r.2.1 - (p + 1) := b3
    have b4 : ∀ j, j < c.1 + 1 → r.2.2.2.1 j = zv_up c.2.1 c.1 kk j ∧ r.2.2.2.2 j = zv_up c.2.2 c.1 0 j := b4
    have kc : r.2.2.2.1 c.1 = kk := (b4 c.1 (by omega)).1.trans zv_up_s
    refine ⟨b1, ⟨r1, r2⟩, ⟨r3, r4⟩, fun _ => ⟨?_, ?_, ?_, fun j hj => ?_, ⟨_, zg_jmp (b := c.1) (ρ1 := ρ1) (ρ2 := ρ2) ?_ ?_ ?_ ?_ (by decide)⟩, trivial, fun w hw => ?_⟩, fun h => absurd rfl h⟩
    · show p0 < r.2.1; omega
    · show c0.1 < r.2.2.1; omega
    · show r.2.2.1 - c0.1 ≤ r.2.1 - p0; omega
    · have q1 := b4 j (by omega)
      have q2 := a4 j hj
      exact ⟨q1.1.trans ((zv_up_n (show j ≠ c.1 by omega)).trans q2.1), (zv_up_n (show j ≠ c.1 by omega)).trans (q1.2.trans ((zv_up_n (show j ≠ c.1 by omega)).trans q2.2))⟩
    · exact zd_seg_fr a5 fun j j1 j2 => ⟨(b4 j (by have j2 : j < c.1 := j2; omega)).1.trans (zv_up_n (show j ≠ c.1 by have j2 : j < c.1 := j2; omega)), (zv_up_n (show j ≠ c.1 by have j2 : j < c.1 := j2; omega)).trans ((b4 j (by have j2 : j < c.1 := j2; omega)).2.trans (zv_up_n (show j ≠ c.1 by have j2 : j < c.1 := j2; omega)))⟩
    · exact zd_seg_fr b5 fun j j1 j2 => ⟨rfl, zv_up_n (show j ≠ c.1 by have j1 : c.1 + 1 ≤ j := j1; omega)⟩
    · show r.2.2.2.1 c.1 = 3 ∨ r.2.2.2.1 c.1 = 4
      rw [kc]; exact hk
    · exact zv_up_s
    · obtain ⟨k1, l1, u1⟩ := a7 w hw
      obtain ⟨k2, l2, u2⟩ := b7 ((s, c.1) :: w) (h1 w hw).1
      have l1 : (k1 : Int) ≤ 2 * (p - p0) := l1
      refine ⟨k1 + 1 + k2, by show ((k1 + 1 + k2 : Nat) : Int) ≤ 2 * (r.2.1 - p0); omega, fun n => ?_⟩
      rw [show n + (k1 + 1 + k2) = (n + k2 + 1) + k1 by omega, u1]
      show yp_C T len (n + k2 + 1) false w o p c = _
      rw [(h1 w hw).2, u2, hM w _ _ hw b6]
  · refine ⟨⟨r1, r2⟩, ⟨d1, d2⟩, fun h => absurd h e, fun _ w hw => ?_⟩
    obtain ⟨k1, l1, u1⟩ := a7 w hw
    obtain ⟨k2, l2, u2⟩ := rb e ((s, c.1) :: w) (h1 w hw).1
    have l1 : (k1 : Int) ≤ 2 * (p - p0) := l1
    refine ⟨k1 + 1 + k2, by omega, fun n => ?_⟩
    rw [show n + (k1 + 1 + k2) + 1 = ((n + k2 + 1) + 1) + k1 by omega, u1]
    show yp_C T len (n + k2 + 1 + 1) false w o p c = _
    rw [(h1 w hw).2, u2]
end ZCC
def yr_ic (R : Int → zCD → Option (Int × Int × zCD)) (T : Int → Int) (len o : Int) (W : zWT → Prop) (N : Int → Prop) : Prop := ∀ (p : Int) (c : zCD), 0 ≤ p → p ≤ len → 0 ≤ c.1 → c.1 ≤ p → zh_ok (R p c) (yp_CC T len o W N p c)
section ZRC
variable {rc : zRC} {T : Int → Int} {len o : Int}
theorem ze_landJump {j f : Int} {V : Int → Int} (h1 : 0 ≤ j) (h2 : j < 200) : zf_Law_landJump j f V = some (zv_up V j f) := by
  unfold zf_Law_landJump
  rw [if_neg (by omega), if_pos h2, zl_ci h1 (by omega)]
theorem yr_part_f {n : Nat} {f p c : Int} {K V : Int → Int} (hf : f ≠ 0) : zm_LawReader_readPart_l0 rc o len T (n + 1) f p c K V = some (f, p, c, K, V) := by
  show zm_LawReader_readPart_l0_b rc o len T (zm_LawReader_readPart_l0 rc o len T n) f p c K V = _
  unfold zm_LawReader_readPart_l0_b
  rw [if_neg hf]
theorem yr_part_l (hl : len ≤ 200) (ho : o ≤ 6) (hF : yr_ic (fun p c => rc 2 o 0 p len c.1 T c.2.1 c.2.2) T len o yp_wp yp_any) {p0 : Int} {c0 : zCD} (h0 : c0.1 ≤ p0) (h00 : 0 ≤ c0.1) : ∀ (m : Nat) (f p : Int) (c : zCD) (n : Nat), len - p ≤ m → m < n → yp_CC T len o yp_wq yp_any p0 c0 (f, p, c) →
    zh_ok (zm_LawReader_readPart_l0 rc o len T n f p c.1 c.2.1 c.2.2) (yp_CC T len o yp_wq yp_noa p0 c0) := by
  intro m
  induction m with
  | zero =>
    intro f p c n hm hn hs
    obtain ⟨n, rfl⟩ : ∃ q, n = q + 1 := ⟨n - 1, by omega⟩
    by_cases hf : f = 0
    · show zh_ok (zm_LawReader_readPart_l0_b rc o len T (zm_LawReader_readPart_l0 rc o len T n) f p c.1 c.2.1 c.2.2) _
      unfold zm_LawReader_readPart_l0_b
      rw [if_pos hf, if_neg (by omega)]
      exact zh_ret (yp_CC_N hs fun _ => by
        show yp_pk T len p ≠ 38
        unfold yp_pk
        rw [if_neg (by omega)]; decide)
    · rw [yr_part_f hf]
      exact zh_ret (yp_CC_N hs fun h => absurd h hf)
  | succ m ih =>
    intro f p c n hm hn hs
    obtain ⟨n, rfl⟩ : ∃ q, n = q + 1 := ⟨n - 1, by omega⟩
    by_cases hf : f = 0
    · subst hf
      by_cases hp : p < len
      · have p1 : 0 ≤ p := hs.1.1
        have c1 : 0 ≤ c.1 := hs.2.1.1
        have cp : c.1 ≤ p := by
          obtain ⟨a1, a2, a3, -⟩ := hs.2.2.1 rfl
          have a1 : p0 < p := a1
          have a3 : c.1 - c0.1 ≤ p - p0 := a3
          omega
        have pk : yp_pk T len p = T p := if_pos hp
        show zh_ok (zm_LawReader_readPart_l0_b rc o len T (zm_LawReader_readPart_l0 rc o len T n) 0 p c.1 c.2.1 c.2.2) _
        unfold zm_LawReader_readPart_l0_b
        rw [if_pos rfl, if_pos hp, zl_ci p1 (by omega), zi_w_id (x := p + 1) (by omega) (by omega)]
        by_cases h38 : T p = 38
        · rw [if_pos h38, ze_addStep c1 (by omega), zl_b]
          refine zh_bind (hF (p + 1) (yp_em 4 0 c) (by omega) (by omega) (by show 0 ≤ c.1 + 1; omega) (by show c.1 + 1 ≤ p + 1; omega)) fun r hr => ?_
          obtain ⟨q1, q2⟩ := yp_CC_step (s := 11) hl h0 hs hp hr (Or.inr rfl) (fun w hw => ⟨fun h => (by cases h), fun n => by
            have hd : yp_hd w ≠ 10 ∧ yp_hd w ≠ 11 := by
              rcases hw with h | h <;> rw [h] <;> decide
            rw [yp_C_f, if_neg hd.1, pk, h38, if_neg (by decide), if_pos rfl, yp_la_n ⟨hd.2, fun h => (by cases h)⟩]⟩) (fun w c' p' hw _ n => yp_C_ifn (by rcases hw with h | h <;> rw [h] <;> decide))
          rw [ze_landJump c1 (by omega), zl_b]
          by_cases he : r.1 = 0
          · obtain ⟨b3, q1⟩ := q1 he
            rw [he]
            exact ih 0 r.2.1 (yp_ln c.1 r.2.2) n (by omega) (by omega) q1
          · obtain ⟨n, rfl⟩ : ∃ q, n = q + 1 := ⟨n - 1, by omega⟩
            rw [yr_part_f he]
            exact zh_ret (yp_CC_N (q2 he (yp_ln c.1 r.2.2) hr.2.1.1 hr.2.1.2) fun h => absurd h he)
        rw [if_neg h38]
        exact zh_ret (yp_CC_N hs fun _ => by
          show yp_pk T len p ≠ 38
          rw [pk]; exact h38)
      · show zh_ok (zm_LawReader_readPart_l0_b rc o len T (zm_LawReader_readPart_l0 rc o len T n) 0 p c.1 c.2.1 c.2.2) _
        unfold zm_LawReader_readPart_l0_b
        rw [if_pos rfl, if_neg hp]
        exact zh_ret (yp_CC_N hs fun _ => by
          show yp_pk T len p ≠ 38
          unfold yp_pk
          rw [if_neg hp]; decide)
    · rw [yr_part_f hf]
      exact zh_ret (yp_CC_N hs fun h => absurd h hf)
theorem yr_part (hl : len ≤ 200) (ho : o ≤ 6) (hF : yr_ic (fun p c => rc 2 o 0 p len c.1 T c.2.1 c.2.2) T len o yp_wp yp_any) : yr_ic (fun p c => zm_LawReader_readPart rc o 0 p len c.1 T c.2.1 c.2.2) T len o yp_wq yp_noa := by
  intro p c p1 p2 c1 c2
  show zh_ok (zm_LawReader_readPart rc o 0 p len c.1 T c.2.1 c.2.2) _
  unfold zm_LawReader_readPart
  refine zh_bind (hF p c p1 p2 c1 c2) fun r hr => ?_
  refine zh_bind (yr_part_l hl ho hF c2 c1 (len - r.2.1).toNat r.1 r.2.1 r.2.2 zi_fu (by omega) (by have := hr.1.1; have : 1000 < zi_fu := (by decide); omega) (yp_CC_W hr fun w hw e => by subst e; rcases hw with h | h <;> cases h)) fun q hq => zh_ret hq
theorem yr_cond_f {n : Nat} {f p c : Int} {K V : Int → Int} (hf : f ≠ 0) : zm_LawReader_readCondition_l0 rc o len T (n + 1) f p c K V = some (f, p, c, K, V) := by
  show zm_LawReader_readCondition_l0_b rc o len T (zm_LawReader_readCondition_l0 rc o len T n) f p c K V = _
  unfold zm_LawReader_readCondition_l0_b
  rw [if_neg hf]
theorem yr_cond_l (hl : len ≤ 200) (ho : o ≤ 6) (hF : yr_ic (fun p c => rc 1 o 0 p len c.1 T c.2.1 c.2.2) T len o yp_wq yp_noa) {p0 : Int} {c0 : zCD} (h0 : c0.1 ≤ p0) (h00 : 0 ≤ c0.1) : ∀ (m : Nat) (f p : Int) (c : zCD) (n : Nat), len - p ≤ m → m < n → yp_CC T len o yp_wc yp_noa p0 c0 (f, p, c) →
    zh_ok (zm_LawReader_readCondition_l0 rc o len T n f p c.1 c.2.1 c.2.2) (yp_CC T len o yp_wc yp_noo p0 c0) := by
  intro m
  induction m with
  | zero =>
    intro f p c n hm hn hs
    obtain ⟨n, rfl⟩ : ∃ q, n = q + 1 := ⟨n - 1, by omega⟩
    by_cases hf : f = 0
    · show zh_ok (zm_LawReader_readCondition_l0_b rc o len T (zm_LawReader_readCondition_l0 rc o len T n) f p c.1 c.2.1 c.2.2) _
      unfold zm_LawReader_readCondition_l0_b
      rw [if_pos hf, if_neg (by omega)]
      exact zh_ret (yp_CC_N hs fun _ => by
        show yp_pk T len p ≠ 38 ∧ yp_pk T len p ≠ 124
        unfold yp_pk
        rw [if_neg (by omega)]; decide)
    · rw [yr_cond_f hf]
      exact zh_ret (yp_CC_N hs fun h => absurd h hf)
  | succ m ih =>
    intro f p c n hm hn hs
    obtain ⟨n, rfl⟩ : ∃ q, n = q + 1 := ⟨n - 1, by omega⟩
    by_cases hf : f = 0
    · subst hf
      have hN : yp_pk T len p ≠ 38 := (hs.2.2.1 rfl).2.2.2.2.2.1
      by_cases hp : p < len
      · have p1 : 0 ≤ p := hs.1.1
        have c1 : 0 ≤ c.1 := hs.2.1.1
        have cp : c.1 ≤ p := by
          obtain ⟨a1, a2, a3, -⟩ := hs.2.2.1 rfl
          have a1 : p0 < p := a1
          have a3 : c.1 - c0.1 ≤ p - p0 := a3
          omega
        have pk : yp_pk T len p = T p := if_pos hp
        show zh_ok (zm_LawReader_readCondition_l0_b rc o len T (zm_LawReader_readCondition_l0 rc o len T n) 0 p c.1 c.2.1 c.2.2) _
        unfold zm_LawReader_readCondition_l0_b
        rw [if_pos rfl, if_pos hp, zl_ci p1 (by omega), zi_w_id (x := p + 1) (by omega) (by omega)]
        by_cases h124 : T p = 124
        · rw [if_pos h124, ze_addStep c1 (by omega), zl_b]
          refine zh_bind (hF (p + 1) (yp_em 3 0 c) (by omega) (by omega) (by show 0 ≤ c.1 + 1; omega) (by show c.1 + 1 ≤ p + 1; omega)) fun r hr => ?_
          obtain ⟨q1, q2⟩ := yp_CC_step (s := 12) hl h0 hs hp hr (Or.inl rfl) (fun w hw => ⟨Or.inl rfl, fun n => by
            have hw : yp_hd w = 13 := hw
            rw [yp_C_f, if_neg (by rw [hw]; decide), pk, h124, if_neg (by decide), if_neg (by decide), if_pos rfl, yp_la_n ⟨by rw [hw]; decide, fun _ => by rw [hw]; decide⟩]⟩) (fun w c' p' hw hN n => yp_C_ifs (by have hw : yp_hd w = 13 := hw; rw [hw]; decide) hN)
          rw [ze_landJump c1 (by omega), zl_b]
          by_cases he : r.1 = 0
          · have hN2 := (hr.2.2.1 he).2.2.2.2.2.1
            obtain ⟨b3, q1⟩ := q1 he
            rw [he]
            exact ih 0 r.2.1 (yp_ln c.1 r.2.2) n (by omega) (by omega) (yp_CC_N q1 fun _ => hN2)
          · obtain ⟨n, rfl⟩ : ∃ q, n = q + 1 := ⟨n - 1, by omega⟩
            rw [yr_cond_f he]
            exact zh_ret (yp_CC_N (q2 he (yp_ln c.1 r.2.2) hr.2.1.1 hr.2.1.2) fun h => absurd h he)
        rw [if_neg h124]
        exact zh_ret (yp_CC_N hs fun _ => by
          show yp_pk T len p ≠ 38 ∧ yp_pk T len p ≠ 124
          exact ⟨hN, by rw [pk]; exact h124⟩)
      · show zh_ok (zm_LawReader_readCondition_l0_b rc o len T (zm_LawReader_readCondition_l0 rc o len T n) 0 p c.1 c.2.1 c.2.2) _
        unfold zm_LawReader_readCondition_l0_b
        rw [if_pos rfl, if_neg hp]
        exact zh_ret (yp_CC_N hs fun _ => by
          show yp_pk T len p ≠ 38 ∧ yp_pk T len p ≠ 124
          unfold yp_pk
          rw [if_neg hp]; decide)
    · rw [yr_cond_f hf]
      exact zh_ret (yp_CC_N hs fun h => absurd h hf)
theorem yr_cond (hl : len ≤ 200) (ho : o ≤ 6) (hF : yr_ic (fun p c => rc 1 o 0 p len c.1 T c.2.1 c.2.2) T len o yp_wq yp_noa) : yr_ic (fun p c => zm_LawReader_readCondition rc o 0 p len c.1 T c.2.1 c.2.2) T len o yp_wc yp_noo := by
  intro p c p1 p2 c1 c2
  show zh_ok (zm_LawReader_readCondition rc o 0 p len c.1 T c.2.1 c.2.2) _
  unfold zm_LawReader_readCondition
  refine zh_bind (hF p c p1 p2 c1 c2) fun r hr => ?_
  refine zh_bind (yr_cond_l hl ho hF c2 c1 (len - r.2.1).toNat r.1 r.2.1 r.2.2 zi_fu (by omega) (by have := hr.1.1; have : 1000 < zi_fu := (by decide); omega) (yp_CC_W hr fun w hw => Or.inr hw)) fun q hq => zh_ret hq
/-- two sums compared -/
theorem yr_sumS {p p' : Int} {c c' : zCD} (hl : len ≤ 200) (p1 : 0 ≤ p) (p2 : p' ≤ len) (h : yp_okE T len o (15 - 2 * o) yp_ta yp_nos p c p' c') : yp_S T len 1000 true [] o p c = some (.inr (p', c')) := by
  obtain ⟨a1, a2, a3, a4, a5, a6, a7⟩ := h
  obtain ⟨k, l, u⟩ := a7 [] (fun s w e => by cases e)
  have a6 : yp_ss (yp_pk T len p') = -1 := a6
  have := u (1000 - k)
  rw [show 1000 - k + k = 1000 by omega] at this
  rw [this, show 1000 - k = (999 - k) + 1 by omega, yp_S_f, a6, if_neg (fun h => h rfl), if_neg (by simp)]
  rfl
theorem yr_sumN {p f : Int} {c : zCD} (hl : len ≤ 200) (p1 : 0 ≤ p) (h : yp_noE T len o yp_ta p c f) : yp_S T len 1000 true [] o p c = some (.inl f) := by
  obtain ⟨k, l, u⟩ := h [] (fun s w e => by cases e)
  have := u (1000 - k - 1)
  rw [show 1000 - k - 1 + k + 1 = 1000 by omega] at this
  exact this
theorem yr_comp (hl : len ≤ 200) (hT : ∀ j, 0 ≤ j → j < 220 → 0 ≤ T j ∧ T j ≤ 255) (o1 : 1 ≤ o) (o2 : o ≤ 6) {p : Int} {c : zCD} (p1 : 0 ≤ p) (p2 : p ≤ len) (c1 : 0 ≤ c.1) (c2 : c.1 ≤ p) (h33 : yp_pk T len p ≠ 33) (h40 : yp_pk T len p ≠ 40) : zh_ok (zf_LawReader_readComparison o 0 p len c.1 T c.2.1 c.2.2) (yp_CC T len o yp_wp yp_any p c) := by
  unfold zf_LawReader_readComparison
  have hS := yr_readSum (T := T) (len := len) (o := o) hl hT (by omega) o2
  refine zh_bind (hS p c p1 p2 c1 c2) fun r hr => ?_
  obtain ⟨⟨r1, r2⟩, ⟨r3, r4⟩, ro, rb⟩ := hr
  by_cases he : r.1 = 0
  · have ro := ro he
    have hS1 := yr_sumS hl p1 r2 ro
    obtain ⟨a1, a2, a3, a4, ⟨ρ1, a5⟩, a6, -⟩ := ro
    rw [if_pos he, ze_peek r1 (by omega), zl_b, he]
    have step : ∀ kk, yp_cs (yp_pk T len r.2.1) = kk → 10 ≤ kk → kk ≤ 12 → zh_ok ((zf_LawReader_readSum o 0 (zi_w (r.2.1 + 1)) len r.2.2.1 T r.2.2.2.1 r.2.2.2.2).bind fun r5 => ((zf_Law_addStep kk 0 r5.2.2.1 r5.2.2.2.1 r5.2.2.2.2).bind fun r7 => (some (r5.1, r5.2.1, r7.2.1, r7.2.2.1, r7.2.2.2)))) (yp_CC T len o yp_wp yp_any p c) := by
      intro kk hk k1 k2
      have hp : r.2.1 < len := yp_pk_lt (T := T) (fun h => by rw [h] at hk; have : yp_cs (-1) = -1 := (by decide); omega)
      rw [zi_w_id (x := r.2.1 + 1) (by omega) (by omega)]
      refine zh_bind (hS (r.2.1 + 1) r.2.2 (by omega) (by omega) r3 (by omega)) fun q hq => ?_
      obtain ⟨⟨q1, q2⟩, ⟨q3, q4⟩, qo, qb⟩ := hq
      by_cases hq0 : q.1 = 0
      · have qo := qo hq0
        have hS2 := yr_sumS hl (by omega) q2 qo
        obtain ⟨b1, b2, b3, b4, ⟨ρ2, b5⟩, b6, -⟩ := qo
        rw [ze_addStep q3 (by omega), zl_b, hq0]
        refine zh_ret ⟨⟨q1, q2⟩, ⟨?_, ?_⟩, fun _ => ⟨?_, ?_, ?_, fun j hj => ?_, ⟨_, zd_seg_nd (zg_bin (nd := 15 - 2 * o + 1) (nd2 := 15 - 2 * o) (b := r.2.2.1) (c := q.2.2.1) (ρ1 := ρ1) (ρ2 := ρ2) ?_ ?_ ?_ ?_ ?_ (by omega) (by omega) (fun _ => ?_)) (by omega)⟩, trivial, fun w _ => ⟨1, ?_, fun n => ?_⟩⟩, fun h => absurd rfl h⟩
        · show 0 ≤ q.2.2.1 + 1; omega
        · show q.2.2.1 + 1 ≤ 200; omega
        · show p < q.2.1; omega
        · show c.1 < q.2.2.1 + 1; omega
        · show q.2.2.1 + 1 - c.1 ≤ q.2.1 - p; omega
        · have u1 := b4 j (by omega)
          have u2 := a4 j hj
          exact ⟨(zv_up_n (show j ≠ q.2.2.1 by omega)).trans (u1.1.trans u2.1), (zv_up_n (show j ≠ q.2.2.1 by omega)).trans (u1.2.trans u2.2)⟩
        · exact zd_seg_nd (zd_seg_fr a5 fun j j1 j2 => ⟨(zv_up_n (show j ≠ q.2.2.1 by omega)).trans (b4 j j2).1, (zv_up_n (show j ≠ q.2.2.1 by omega)).trans (b4 j j2).2⟩) (by omega)
        · exact zd_seg_fr b5 fun j j1 j2 => ⟨zv_up_n (show j ≠ q.2.2.1 by omega), zv_up_n (show j ≠ q.2.2.1 by omega)⟩
        · show 5 ≤ zv_up q.2.2.2.1 q.2.2.1 kk q.2.2.1
          rw [zv_up_s]; omega
        · show zv_up q.2.2.2.1 q.2.2.1 kk q.2.2.1 ≤ 12
          rw [zv_up_s]; omega
        · exact zv_up_s
        · show 10 ≤ zv_up q.2.2.2.1 q.2.2.1 kk q.2.2.1
          rw [zv_up_s]; omega
        · show ((1 : Nat) : Int) ≤ 2 * (q.2.1 - p); omega
        · rw [yp_C_t, if_neg h33, if_neg h40, hS1, zl_b]
          show (if yp_cs (yp_pk T len r.2.1) = -1 then _ else _) = _
          rw [if_neg (by omega), hS2, zl_b]
          show yp_C T len n false w o q.2.1 (yp_em (yp_cs (yp_pk T len r.2.1)) 0 q.2.2) = _
          rw [hk]
          rfl
      · have qb := yr_sumN hl (by omega) (qb hq0)
        obtain ⟨a, c', K', V', e1, e2, e3, -⟩ := ze_addStep_a (k := kk) (v := 0) (K := q.2.2.2.1) (V := q.2.2.2.2) q3 q4
        rw [e1, zl_b]
        refine zh_ret ⟨⟨q1, q2⟩, ⟨e2, e3⟩, fun h => absurd h hq0, fun _ w _ => ⟨0, by omega, fun n => ?_⟩⟩
        show yp_C T len (n + 1) true w o p c = some (.inl q.1)
        rw [yp_C_t, if_neg h33, if_neg h40, hS1, zl_b]
        show (if yp_cs (yp_pk T len r.2.1) = -1 then _ else _) = _
        rw [if_neg (by omega), qb, zl_b]
        rfl
    by_cases h60 : yp_pk T len r.2.1 = 60
    · rw [if_pos h60]
      exact step 10 (by rw [h60]; rfl) (by decide) (by decide)
    rw [if_neg h60]
    by_cases h62 : yp_pk T len r.2.1 = 62
    · rw [if_pos h62]
      exact step 11 (by rw [h62]; rfl) (by decide) (by decide)
    rw [if_neg h62]
    by_cases h61 : yp_pk T len r.2.1 = 61
    · rw [if_pos h61]
      exact step 12 (by rw [h61]; rfl) (by decide) (by decide)
    rw [if_neg h61, ze_fail r1 (by omega) (by decide) (by decide), zl_b]
    refine zh_ret ⟨⟨r1, r2⟩, ⟨r3, r4⟩, fun h => ?_, fun _ w _ => ⟨0, by omega, fun n => ?_⟩⟩
    · have h : -1000 * 1 - r.2.1 = 0 := h
      omega
    · show yp_C T len (n + 1) true w o p c = some (.inl (-1000 * 1 - r.2.1))
      rw [yp_C_t, if_neg h33, if_neg h40, hS1, zl_b]
      show (if yp_cs (yp_pk T len r.2.1) = -1 then _ else _) = _
      rw [if_pos (by unfold yp_cs; rw [if_neg h60, if_neg h62, if_neg h61])]
      rfl
  · rw [if_neg he]
    have rb := yr_sumN hl p1 (rb he)
    refine zh_ret ⟨⟨r1, r2⟩, ⟨r3, r4⟩, fun h => absurd h he, fun _ w _ => ⟨0, by omega, fun n => ?_⟩⟩
    show yp_C T len (n + 1) true w o p c = some (.inl r.1)
    rw [yp_C_t, if_neg h33, if_neg h40, rb, zl_b]
    rfl
theorem yr_piece (hl : len ≤ 200) (o1 : 1 ≤ o) (o2 : o ≤ 6) (hT : ∀ j, 0 ≤ j → j < 220 → 0 ≤ T j ∧ T j ≤ 255) (hP : o < 6 → yr_ic (fun p c => rc 2 (o + 1) 0 p len c.1 T c.2.1 c.2.2) T len (o + 1) yp_wp yp_any) (hC : o < 6 → yr_ic (fun p c => rc 0 (o + 1) 0 p len c.1 T c.2.1 c.2.2) T len (o + 1) yp_wc yp_noo) : yr_ic (fun p c => zm_LawReader_readPiece rc o 0 p len c.1 T c.2.1 c.2.2) T len o yp_wp yp_any := by
  intro p c p1 p2 c1 c2
  show zh_ok (zm_LawReader_readPiece rc o 0 p len c.1 T c.2.1 c.2.2) _
  unfold zm_LawReader_readPiece
  rw [ze_peek p1 (by omega), zl_b, if_pos rfl]
  by_cases h33 : yp_pk T len p = 33
  · have hp : p < len := yp_pk_lt (T := T) (by omega)
    rw [if_pos h33]
    by_cases ho6 : o < 6
    · rw [if_pos ho6, zi_w_id (x := o + 1) (by omega) (by omega), zi_w_id (x := p + 1) (by omega) (by omega)]
      refine zh_bind (hP ho6 (p + 1) c (by omega) (by omega) c1 (by omega)) fun r hr => ?_
      obtain ⟨⟨r1, r2⟩, ⟨r3, r4⟩, ro, rb⟩ := hr
      have one : ∀ w n, yp_C T len (n + 1) true w o p c = yp_C T len n true ((10, 0) :: w) (o + 1) (p + 1) c := fun w n => by
        rw [yp_C_t, if_pos h33, if_neg (by omega)]
      by_cases he : r.1 = 0
      · obtain ⟨b1, b2, b3, b4, ⟨ρ, b5⟩, b6, b7⟩ := ro he
        rw [ze_addStep r3 (by omega), zl_b, he]
        refine zh_ret ⟨⟨r1, r2⟩, ⟨?_, ?_⟩, fun _ => ⟨?_, ?_, ?_, fun j hj => ?_, ⟨_, zg_not (b := r.2.2.1) (ρ1 := ρ) ?_ ?_ ?_ (by decide)⟩, trivial, fun w _ => ?_⟩, fun h => absurd rfl h⟩
        · show 0 ≤ r.2.2.1 + 1; omega
        · show r.2.2.1 + 1 ≤ 200; omega
        · show p < r.2.1; omega
        · show c.1 < r.2.2.1 + 1; omega
        · show r.2.2.1 + 1 - c.1 ≤ r.2.1 - p; omega
        · exact ⟨(zv_up_n (show j ≠ r.2.2.1 by omega)).trans (b4 j hj).1, (zv_up_n (show j ≠ r.2.2.1 by omega)).trans (b4 j hj).2⟩
        · exact zd_seg_fr b5 fun j j1 j2 => ⟨zv_up_n (show j ≠ r.2.2.1 by omega), zv_up_n (show j ≠ r.2.2.1 by omega)⟩
        · exact zv_up_s
        · exact zv_up_s
        · obtain ⟨k, l, u⟩ := b7 ((10, 0) :: w) (fun h => (by cases h))
          refine ⟨1 + k + 1, by show ((1 + k + 1 : Nat) : Int) ≤ 2 * (r.2.1 - p); omega, fun n => ?_⟩
          rw [show n + (1 + k + 1) = (n + 1 + k) + 1 by omega, one, u, yp_C_f, if_pos (show yp_hd ((10, 0) :: w) = 10 from rfl), show o + 1 - 1 = o by omega]
          rfl
      · obtain ⟨a, c', K', V', e1, e2, e3, -⟩ := ze_addStep_a (k := 2) (v := 0) (K := r.2.2.2.1) (V := r.2.2.2.2) r3 r4
        rw [e1, zl_b]
        refine zh_ret ⟨⟨r1, r2⟩, ⟨e2, e3⟩, fun h => absurd h he, fun _ w _ => ?_⟩
        obtain ⟨k, l, u⟩ := rb he ((10, 0) :: w) (fun h => (by cases h))
        refine ⟨1 + k, by omega, fun n => ?_⟩
        rw [show n + (1 + k) + 1 = (n + k + 1) + 1 by omega, one, u]
    · rw [if_neg ho6, ze_fail p1 (by omega) (by decide) (by decide), zl_b]
      refine zh_ret ⟨⟨p1, p2⟩, ⟨c1, (show c.1 ≤ 200 by omega)⟩, fun h => ?_, fun _ w _ => ⟨0, by omega, fun n => ?_⟩⟩
      · have h : -1000 * 5 - p = 0 := h
        omega
      · show yp_C T len (n + 1) true w o p c = some (.inl (-1000 * 5 - p))
        rw [yp_C_t, if_pos h33, if_pos (by omega)]
        rfl
  · rw [if_neg h33]
    by_cases h40 : yp_pk T len p = 40
    · have hp : p < len := yp_pk_lt (T := T) (by omega)
      rw [if_pos h40]
      by_cases ho6 : o < 6
      · rw [if_pos ho6, zi_w_id (x := o + 1) (by omega) (by omega), zi_w_id (x := p + 1) (by omega) (by omega)]
        refine zh_bind (hC ho6 (p + 1) c (by omega) (by omega) c1 (by omega)) fun r hr => ?_
        obtain ⟨⟨r1, r2⟩, ⟨r3, r4⟩, ro, rb⟩ := hr
        have one : ∀ w n, yp_C T len (n + 1) true w o p c = yp_C T len n true ((13, 0) :: w) (o + 1) (p + 1) c := fun w n => by
          rw [yp_C_t, if_neg h33, if_pos h40, if_neg (by omega)]
        by_cases he : r.1 = 0
        · obtain ⟨b1, b2, b3, b4, ⟨ρ, b5⟩, b6, b7⟩ := ro he
          have b6 : yp_pk T len r.2.1 ≠ 38 ∧ yp_pk T len r.2.1 ≠ 124 := b6
          rw [he, ze_skip r1 (by omega) (by omega), zl_b]
          by_cases h41 : yp_pk T len r.2.1 = 41
          · have hp3 : r.2.1 < len := yp_pk_lt (T := T) (by omega)
            rw [if_pos h41]
            refine zh_ret ⟨⟨?_, ?_⟩, ⟨r3, r4⟩, fun _ => ⟨?_, b2, ?_, b4, ⟨ρ, b5⟩, trivial, fun w hw => ?_⟩, fun h => absurd rfl h⟩
            · show 0 ≤ r.2.1 + 1; omega
            · show r.2.1 + 1 ≤ len; omega
            · show p < r.2.1 + 1; omega
            · show r.2.2.1 - c.1 ≤ r.2.1 + 1 - p; omega
            · obtain ⟨k, l, u⟩ := b7 ((13, 0) :: w) rfl
              have hw : w ≠ [] := hw
              refine ⟨1 + k + 1, by show ((1 + k + 1 : Nat) : Int) ≤ 2 * (r.2.1 + 1 - p); omega, fun n => ?_⟩
              rw [show n + (1 + k + 1) = (n + 1 + k) + 1 by omega, one, u, yp_C_f, if_neg (show ¬ yp_hd ((13, 0) :: w) = 10 from (by decide : ¬ (13 : Int) = 10)), if_pos h41, yp_la_n (w := (13, 0) :: w) ⟨(show (13 : Int) ≠ 11 by decide), fun _ => (show (13 : Int) ≠ 12 by decide)⟩]
              show (if w = [] then _ else _) = _
              rw [if_neg hw, show o + 1 - 1 = o by omega]
              rfl
          · rw [if_neg h41]
            refine zh_ret ⟨⟨r1, r2⟩, ⟨r3, r4⟩, fun h => ?_, fun _ w _ => ?_⟩
            · have h : -1000 - r.2.1 = 0 := h
              omega
            · obtain ⟨k, l, u⟩ := b7 ((13, 0) :: w) rfl
              refine ⟨1 + k, by omega, fun n => ?_⟩
              rw [show n + (1 + k) + 1 = (n + 1 + k) + 1 by omega, one, u, yp_C_f, if_neg (show ¬ yp_hd ((13, 0) :: w) = 10 from (by decide : ¬ (13 : Int) = 10)), if_neg h41, if_neg b6.1, if_neg b6.2]
        · rw [ze_skipf he, zl_b]
          refine zh_ret ⟨⟨r1, r2⟩, ⟨r3, r4⟩, fun h => absurd h he, fun _ w _ => ?_⟩
          obtain ⟨k, l, u⟩ := rb he ((13, 0) :: w) rfl
          refine ⟨1 + k, by omega, fun n => ?_⟩
          rw [show n + (1 + k) + 1 = (n + k + 1) + 1 by omega, one, u]
      · rw [if_neg ho6, ze_fail p1 (by omega) (by decide) (by decide), zl_b]
        refine zh_ret ⟨⟨p1, p2⟩, ⟨c1, (show c.1 ≤ 200 by omega)⟩, fun h => ?_, fun _ w _ => ⟨0, by omega, fun n => ?_⟩⟩
        · have h : -1000 * 5 - p = 0 := h
          omega
        · show yp_C T len (n + 1) true w o p c = some (.inl (-1000 * 5 - p))
          rw [yp_C_t, if_neg h33, if_pos h40, if_pos (by omega)]
          rfl
    · rw [if_neg h40]
      exact zh_bind (yr_comp hl hT o1 o2 p1 p2 c1 c2 h33 h40) fun q hq => zh_ret hq
end ZRC
theorem yr_allC {T : Int → Int} {len : Int} (hl : len ≤ 200) (hT : ∀ j, 0 ≤ j → j < 220 → 0 ≤ T j ∧ T j ≤ 255) : ∀ (d : Nat) (o : Int), o + d = 6 → 1 ≤ o → ∀ n, yr_ic (fun p c => zg_LawReader_readCondition (n + 3 * d + 3) 0 o 0 p len c.1 T c.2.1 c.2.2) T len o yp_wc yp_noo ∧ yr_ic (fun p c => zg_LawReader_readCondition (n + 3 * d + 1) 2 o 0 p len c.1 T c.2.1 c.2.2) T len o yp_wp yp_any := by
  intro d
  induction d with
  | zero =>
    intro o ho o1 n
    have hp : ∀ n, yr_ic (fun p c => zg_LawReader_readCondition (n + 1) 2 o 0 p len c.1 T c.2.1 c.2.2) T len o yp_wp yp_any := fun n => yr_piece (rc := zg_LawReader_readCondition n) hl o1 (by omega) hT (fun h => absurd h (by omega)) (fun h => absurd h (by omega))
    refine ⟨?_, hp n⟩
    refine yr_cond (rc := zg_LawReader_readCondition (n + 2)) hl (by omega) ?_
    exact yr_part (rc := zg_LawReader_readCondition (n + 1)) hl (by omega) (hp n)
  | succ d ih =>
    intro o ho o1 n
    have hp : ∀ n, yr_ic (fun p c => zg_LawReader_readCondition (n + 3 * (d + 1) + 1) 2 o 0 p len c.1 T c.2.1 c.2.2) T len o yp_wp yp_any := fun n => yr_piece (rc := zg_LawReader_readCondition (n + 3 * (d + 1))) hl o1 (by omega) hT (fun _ => (by
      have := (ih (o + 1) (by omega) (by omega) (n + 2)).2
      rw [show n + 2 + 3 * d + 1 = n + 3 * (d + 1) by omega] at this
      exact this)) (fun _ => (ih (o + 1) (by omega) (by omega) n).1)
    refine ⟨?_, hp n⟩
    refine yr_cond (rc := zg_LawReader_readCondition (n + 3 * (d + 1) + 2)) hl (by omega) ?_
    exact yr_part (rc := zg_LawReader_readCondition (n + 3 * (d + 1) + 1)) hl (by omega) (hp n)
theorem yr_readCondition {T : Int → Int} {len : Int} (hl : len ≤ 200) (hT : ∀ j, 0 ≤ j → j < 220 → 0 ≤ T j ∧ T j ≤ 255) : yr_ic (fun p c => zf_LawReader_readCondition 1 0 p len c.1 T c.2.1 c.2.2) T len 1 yp_wc yp_noo := (yr_allC hl hT 5 1 rfl (by decide) 22).1
end
section
/-! The reference's reader of sums goes as the machine goes. -/
def yk_T (T M : Int → Int) : Prop := ∀ j, 0 ≤ j → j < 220 → zi_and (M j) 255 = T j ∧ 0 ≤ T j ∧ T j ≤ 255
def yk_c (c : zCD) (m : Int) (D : Int → Int) : Prop := (m = c.1 ∧ 0 ≤ c.1) ∧ ∀ j, 0 ≤ j → j < c.1 → D j = 1048576 * zd_op (c.2.1 j) + c.2.2 j ∧ (0 ≤ c.2.1 j ∧ c.2.1 j ≤ 12) ∧ 0 ≤ c.2.2 j ∧ c.2.2 j < 1048576
section ZKE
variable {T M W D : Int → Int} {len p c x y m o k f : Int}
theorem ze_here (hT : yk_T T M) (h1 : 0 ≤ p) (h2 : len ≤ 220) : zf_M_here p len M = some (yp_pk T len p) := by
  unfold zf_M_here yp_pk
  by_cases h : p < len
  · rw [if_pos h, if_pos h, zl_ci h1 (by omega), (hT p h1 (by omega)).1]
  · rw [if_neg h, if_neg h]
theorem ze_wrong (h1 : 0 ≤ p) (h2 : p ≤ 220) (k1 : 0 ≤ x) (k2 : x ≤ 6) : zf_M_wrongAt x p f = some (0, -1000 * x - p) := by
  unfold zf_M_wrongAt
  rw [zi_w_id (x := -1000 * x) (by omega) (by omega), zi_w_id (by omega) (by omega)]
theorem ze_Mdigit (hT : yk_T T M) (h1 : 0 ≤ p) (h2 : len ≤ 220) : zf_M_isDigit p len M = some (if yp_dg (yp_pk T len p) = true then 1 else 0) := by
  unfold zf_M_isDigit
  rw [ze_here hT h1 h2, zl_b, zl_b]
  by_cases a : yp_pk T len p < 48
  · rw [if_pos a, if_neg (fun h => by have := yp_dg_t.mp h; omega)]
  · rw [if_neg a]
    by_cases b : 57 < yp_pk T len p
    · rw [if_pos b, if_neg (fun h => by have := yp_dg_t.mp h; omega)]
    · rw [if_neg b, if_pos (yp_dg_t.mpr (by omega))]
theorem yp_pk_in (hT : yk_T T M) (h1 : 0 ≤ p) (h2 : len ≤ 220) : -1 ≤ yp_pk T len p ∧ yp_pk T len p ≤ 255 := by
  unfold yp_pk
  split
  · have := (hT p h1 (by omega)).2
    omega
  · omega
theorem ze_factOf (h1 : -1 ≤ c) (h2 : c ≤ 255) : zf_M_factOf c = some (yp_lt c) := by
  have h : ∀ k : Nat, k < 257 → zf_M_factOf ((k : Int) - 1) = some (yp_lt ((k : Int) - 1)) := by decide +kernel
  have := h (c + 1).toNat (by omega)
  rwa [show (((c + 1).toNat : Nat) : Int) - 1 = c by omega] at this
theorem ze_sumSign : zf_M_sumSign c = some (yp_ss c) := by
  unfold zf_M_sumSign yp_ss
  (repeat' split) <;> first | rfl | (exfalso; omega)
theorem ze_notes (m1 : 0 ≤ m) (m2 : m < 220) (x1 : 0 ≤ x) (x2 : x ≤ 14) (y1 : 0 ≤ y) (y2 : y < 1048576) : zf_M_notes x y m D = some (m + 1, zv_up D m (1048576 * x + y)) := by
  unfold zf_M_notes
  rw [zl_ci m1 (by omega), zi_w_id (x := m + 1) (by omega) (by omega), zi_w_id (x := 1048576 * x) (by omega) (by omega), zi_w_id (x := 1048576 * x + y) (by omega) (by omega)]
theorem ze_opens (h6 : o ≠ 6) (k1 : 0 ≤ k) (k2 : k < 220) (p1 : 0 ≤ p) (p2 : p ≤ 220) (o1 : 0 ≤ o) (o2 : o ≤ 6) (x1 : 0 ≤ x) (x2 : x ≤ 14) : zf_M_opens x o k p f W = some (1, o + 1, k + 1, p + 1, f, zv_up W k (1048576 * x)) := by
  unfold zf_M_opens
  rw [if_neg h6, zl_ci k1 (by omega), zi_w_id (x := o + 1) (by omega) (by omega), zi_w_id (x := k + 1) (by omega) (by omega), zi_w_id (x := p + 1) (by omega) (by omega), zi_w_id (x := 1048576 * x) (by omega) (by omega)]
theorem ze_opens6 (h6 : o = 6) (p1 : 0 ≤ p) (p2 : p ≤ 220) : zf_M_opens x o k p f W = some (0, o, k, p, -5000 - p, W) := by
  unfold zf_M_opens
  rw [if_pos h6, ze_wrong p1 p2 (by decide) (by decide), zl_b]
  rfl
theorem ze_waitTop0 : zf_M_waitTop 0 W = some (-1) := by
  unfold zf_M_waitTop
  rw [if_pos rfl]
theorem ze_waitTop (k1 : 1 ≤ k) (k2 : k ≤ 220) : zf_M_waitTop k W = some (zi_div (W (k - 1)) 1048576) := by
  unfold zf_M_waitTop
  rw [if_neg (by omega), zi_w_id (x := k - 1) (by omega) (by omega), zl_ci (by omega) (by omega)]
theorem yk_div {s : Int} (h : W k = 1048576 * s + x) (s1 : 0 ≤ s) (s2 : s ≤ 14) (x1 : 0 ≤ x) (x2 : x < 1048576) : zi_div (W k) 1048576 = s ∧ zi_rem (W k) 1048576 = x := by
  rw [h, zi_div_eq (by omega) (by omega) (by decide) (by decide), zi_rem_eq (by omega) (by omega) (by decide) (by decide)]
  constructor <;> omega
end ZKE
theorem yk_c_em {c : zCD} {m kk v : Int} {D : Int → Int} (h : yk_c c m D) (k1 : 0 ≤ kk) (k2 : kk ≤ 12) (v1 : 0 ≤ v) (v2 : v < 1048576) : yk_c (yp_em kk v c) (m + 1) (zv_up D m (1048576 * zd_op kk + v)) := by
  obtain ⟨⟨e, c0⟩, h⟩ := h
  subst e
  refine ⟨⟨rfl, by show 0 ≤ c.1 + 1; omega⟩, fun j j1 j2 => ?_⟩
  have j2 : j < c.1 + 1 := j2
  show zv_up D c.1 _ j = 1048576 * zd_op (zv_up c.2.1 c.1 kk j) + zv_up c.2.2 c.1 v j ∧ (0 ≤ zv_up c.2.1 c.1 kk j ∧ zv_up c.2.1 c.1 kk j ≤ 12) ∧ 0 ≤ zv_up c.2.2 c.1 v j ∧ zv_up c.2.2 c.1 v j < 1048576
  by_cases ej : j = c.1
  · subst ej
    rw [zv_up_s, zv_up_s, zv_up_s]
    exact ⟨rfl, ⟨k1, k2⟩, v1, v2⟩
  · rw [zv_up_n ej, zv_up_n ej, zv_up_n ej]
    exact h j j1 (by omega)
/-- what waits, above a base -/
def yk_w (b : Int) : List Int → (Int → Int) → Int → Prop
  | [], _, k => k = b
  | s :: w, W, k => W (k - 1) = 1048576 * s ∧ ((2 ≤ s ∧ s ≤ 6) ∨ s = 14) ∧ yk_w b w W (k - 1)
def yk_n : List Int → Int
  | [] => 0
  | s :: w => (if s = 14 then 1 else 0) + yk_n w
def yk_b (b : Int) (W : Int → Int) : Prop := b = 0 ∨ (1 ≤ b ∧ 7 ≤ zi_div (W (b - 1)) 1048576)
theorem yk_w_le {b : Int} {W : Int → Int} : ∀ {w : List Int} {k : Int}, yk_w b w W k → k = b + w.length
  | [], k, h => by have h : k = b := h; rw [h]; show b = b + ((0 : Nat) : Int); omega
  | s :: w, k, h => by
    have := yk_w_le (w := w) h.2.2
    show k = b + ((w.length + 1 : Nat) : Int)
    omega
theorem yk_w_up {b : Int} {W W2 : Int → Int} : ∀ {w : List Int} {k : Int}, yk_w b w W k → (∀ j, j < k → W2 j = W j) → yk_w b w W2 k
  | [], _, h, _ => h
  | s :: w, k, h, q => ⟨(q (k - 1) (by omega)).trans h.1, h.2.1, yk_w_up h.2.2 fun j hj => q j (by omega)⟩
theorem yk_n0 : ∀ (w : List Int), 0 ≤ yk_n w
  | [] => Int.le_refl _
  | s :: w => by
    have := yk_n0 w
    show 0 ≤ (if s = 14 then 1 else 0) + yk_n w
    split <;> omega
theorem yk_n_0 : ∀ {w : List Int}, ¬ 14 ∈ w → yk_n w = 0
  | [], _ => rfl
  | s :: w, h => by
    show (if s = 14 then 1 else 0) + yk_n w = 0
    rw [if_neg (fun e => h (by rw [e]; exact List.mem_cons_self)), yk_n_0 (fun k => h (List.mem_cons_of_mem _ k))]
    rfl
theorem yp_cl_len {all : Bool} : ∀ (w : List Int) (c : zCD), (yp_cl all w c).2.1 + (yp_cl all w c).1.length = c.1 + w.length ∧ c.1 ≤ (yp_cl all w c).2.1
  | [], c => ⟨rfl, Int.le_refl _⟩
  | s :: w, c => by
    rw [yp_cl_c]
    split
    · obtain ⟨a, b⟩ := yp_cl_len (all := all) w (yp_em (s + 3) 0 c)
      have e : (yp_em (s + 3) 0 c).1 = c.1 + 1 := rfl
      rw [e] at a b
      refine ⟨?_, by omega⟩
      show _ = c.1 + ((w.length + 1 : Nat) : Int)
      omega
    · exact ⟨rfl, Int.le_refl _⟩
theorem yk_n_cl {all : Bool} : ∀ (w : List Int) (c : zCD), yk_n (yp_cl all w c).1 = yk_n w
  | [], c => rfl
  | s :: w, c => by
    rw [yp_cl_c]
    split
    · rename_i h
      rw [yk_n_cl (all := all) w]
      show yk_n w = (if s = 14 then 1 else 0) + yk_n w
      rw [if_neg (by rcases h with h | ⟨_, h⟩ <;> omega)]
      omega
    · rfl
theorem zd_op_s {s : Int} (h : 2 ≤ s) (h2 : s ≤ 6) : zd_op (s + 3) = s := by
  unfold zd_op
  rw [if_neg (by omega), if_neg (by omega), if_neg (by omega), if_neg (by omega), if_neg (by omega)]
  omega
section ZKS
variable {T M W : Int → Int} {b : Int}
/-- the top of what waits, or what lies under the base -/
theorem yk_closes_b {k m a : Int} {D : Int → Int} {n : Nat} (hb : yk_b b W) (e : k = b) (k2 : k ≤ 220) : zf_M_closesSums_l0 a W (n + 1) k m D = some (k, m, D) := by
  have ht : ∃ t, zf_M_waitTop k W = some t ∧ (t = -1 ∨ 7 ≤ t) := by
    subst e
    rcases hb with h | ⟨h1, h2⟩
    · exact ⟨-1, by rw [h]; exact ze_waitTop0, Or.inl rfl⟩
    · exact ⟨_, ze_waitTop h1 k2, Or.inr h2⟩
  obtain ⟨t, ht, h7⟩ := ht
  show zf_M_closesSums_l0_b a W (zf_M_closesSums_l0 a W n) k m D = _
  unfold zf_M_closesSums_l0_b
  rw [ht, zl_b]
  by_cases ha : a = 0
  · rcases h7 with h | h
    · rw [if_pos (by omega), if_pos ha]
    · rw [if_neg (by omega), zl_b, if_pos (by omega), if_pos ha]
  · rcases h7 with h | h
    · rw [if_pos (by omega), if_neg ha, zl_b, if_neg (by omega), zl_b, if_neg (by omega)]
    · rw [if_neg (by omega), zl_b, if_pos (by omega), if_neg ha, zl_b, if_neg (by omega), zl_b, if_neg (by omega)]
theorem yk_closes {all : Bool} {a : Int} (ha : (a = 0 ∧ all = false) ∨ (a = 1 ∧ all = true)) (hb : yk_b b W) (b0 : 0 ≤ b) : ∀ (w : List Int) (c : zCD) (k m : Int) (D : Int → Int) (n : Nat), yk_w b w W k → k ≤ 220 → yk_c c m D → c.1 + w.length ≤ 220 → w.length < n →
    zh_ok (zf_M_closesSums_l0 a W n k m D) (fun t => yk_w b (yp_cl all w c).1 W t.1 ∧ t.1 ≤ k ∧ yk_c (yp_cl all w c).2 t.2.1 t.2.2) := by
  intro w
  induction w with
  | nil =>
    intro c k m D n hw k2 hc hl hn
    obtain ⟨n, rfl⟩ : ∃ q, n = q + 1 := ⟨n - 1, by omega⟩
    rw [yk_closes_b hb hw k2]
    exact zh_ret ⟨hw, Int.le_refl _, hc⟩
  | cons s w ih =>
    intro c k m D n hw k2 hc hl hn
    obtain ⟨n, rfl⟩ : ∃ q, n = q + 1 := ⟨n - 1, by omega⟩
    have hk := yk_w_le hw
    obtain ⟨w1, w2, w3⟩ := hw
    have hl : c.1 + ((w.length + 1 : Nat) : Int) ≤ 220 := hl
    have hn : w.length + 1 < n + 1 := hn
    have hk : k = b + ((w.length + 1 : Nat) : Int) := hk
    obtain ⟨me, m0⟩ := hc.1
    have top : zf_M_waitTop k W = some s := by
      rw [ze_waitTop (by omega) k2, (yk_div (W := W) (k := k - 1) (s := s) (x := 0) (by rw [w1]; omega) (by omega) (by omega) (by decide) (by decide)).1]
    show zh_ok (zf_M_closesSums_l0_b a W (zf_M_closesSums_l0 a W n) k m D) _
    unfold zf_M_closesSums_l0_b
    rw [top, zl_b, zi_w_id (x := k - 1) (by omega) (by omega)]
    have go : (2 ≤ s ∧ s ≤ 6) → yp_cl all (s :: w) c = yp_cl all w (yp_em (s + 3) 0 c) → zh_ok ((zf_M_notes s 0 m D).bind fun r => (zf_M_closesSums_l0 a W n (k - 1) r.1 r.2)) (fun t => yk_w b (yp_cl all (s :: w) c).1 W t.1 ∧ t.1 ≤ k ∧ yk_c (yp_cl all (s :: w) c).2 t.2.1 t.2.2) := by
      intro hs e
      rw [ze_notes (by omega) (by omega) (by omega) (by omega) (by decide) (by decide), zl_b, e]
      have hc2 := yk_c_em (kk := s + 3) (v := 0) hc (by omega) (by omega) (by decide) (by decide)
      rw [zd_op_s hs.1 hs.2] at hc2
      refine zh_mono (ih (yp_em (s + 3) 0 c) (k - 1) (m + 1) _ n w3 (by omega) hc2 (by show c.1 + 1 + _ ≤ 220; omega) (by omega)) fun t ht => ⟨ht.1, by omega, ht.2.2⟩
    have stop : yp_cl all (s :: w) c = (s :: w, c) → zh_ok (some (k, m, D)) (fun t => yk_w b (yp_cl all (s :: w) c).1 W t.1 ∧ t.1 ≤ k ∧ yk_c (yp_cl all (s :: w) c).2 t.2.1 t.2.2) := by
      intro e
      rw [e]
      exact zh_ret ⟨⟨w1, w2, w3⟩, Int.le_refl _, hc⟩
    by_cases s4 : s < 4
    · rw [if_pos s4]
      rcases ha with ⟨a0, ae⟩ | ⟨a1, ae⟩
      · rw [if_pos a0]
        exact stop (by rw [yp_cl_c, if_neg (by rw [ae]; intro h; rcases h with h | ⟨h, _⟩; omega; cases h)])
      · rw [if_neg (by omega), zl_b]
        by_cases s2 : s = 2
        · rw [if_pos s2, zl_b]
          exact go (by omega) (by rw [yp_cl_c, if_pos (Or.inr ⟨ae, Or.inl s2⟩)])
        · rw [if_neg s2, zl_b]
          have s3 : s = 3 := by omega
          rw [if_pos s3, zl_b]
          exact go (by omega) (by rw [yp_cl_c, if_pos (Or.inr ⟨ae, Or.inr s3⟩)])
    · rw [if_neg s4, zl_b]
      by_cases s6 : 6 < s
      · rw [if_pos s6]
        have e : yp_cl all (s :: w) c = (s :: w, c) := by
          rw [yp_cl_c, if_neg]
          intro h
          rcases h with h | ⟨_, h⟩ <;> omega
        rcases ha with ⟨a0, ae⟩ | ⟨a1, ae⟩
        · rw [if_pos a0]; exact stop e
        · rw [if_neg (by omega), zl_b, if_neg (by omega), zl_b, if_neg (by omega)]; exact stop e
      · rw [if_neg s6, zl_b]
        exact go (by omega) (by rw [yp_cl_c, if_pos (Or.inl (by omega))])
theorem yk_w_mem : ∀ {w : List Int} {k : Int}, 0 ≤ b → yk_w b w W k → (14 ∈ w ↔ ∃ j, b ≤ j ∧ j < k ∧ zi_div (W j) 1048576 = 14)
  | [], k, b0, h => by
    have h : k = b := h
    exact ⟨fun h => (by cases h), fun ⟨j, a, c, _⟩ => by omega⟩
  | s :: w, k, b0, h => by
    have hk := yk_w_le h
    have hk : k = b + ((w.length + 1 : Nat) : Int) := hk
    obtain ⟨h1, h2, h3⟩ := h
    have ih := yk_w_mem b0 h3
    have hd := (yk_div (x := 0) (by rw [h1]; omega) (by omega) (by omega) (by decide) (by decide) : zi_div (W (k - 1)) 1048576 = s ∧ _).1
    rw [List.mem_cons]
    constructor
    · intro h
      rcases h with h | h
      · exact ⟨k - 1, by omega, by omega, by omega⟩
      · obtain ⟨j, a, c, d⟩ := ih.mp h
        exact ⟨j, a, by omega, d⟩
    · intro ⟨j, a, c, d⟩
      by_cases ej : j = k - 1
      · subst ej; left; omega
      · right; exact ih.mpr ⟨j, a, by omega, d⟩
theorem yk_has_l0 {k : Int} (b0 : 0 ≤ b) (k2 : k ≤ 220) : ∀ (q : Nat) (j : Int) (n : Nat), j + q = k → 0 ≤ j → q < n → zf_M_hasOpenSum_l0 k W n j = some (.inl ()) ∧ (¬ ∃ i, j ≤ i ∧ i < k ∧ zi_div (W i) 1048576 = 14) ∨ zf_M_hasOpenSum_l0 k W n j = some (.inr 1) ∧ ∃ i, j ≤ i ∧ i < k ∧ zi_div (W i) 1048576 = 14 := by
  intro q
  induction q with
  | zero =>
    intro j n e j0 hn
    obtain ⟨n, rfl⟩ : ∃ q, n = q + 1 := ⟨n - 1, by omega⟩
    refine Or.inl ⟨?_, fun ⟨i, a, c, _⟩ => by omega⟩
    show zf_M_hasOpenSum_l0_b k W (zf_M_hasOpenSum_l0 k W n) j = _
    unfold zf_M_hasOpenSum_l0_b
    rw [if_neg (by omega)]
  | succ q ih =>
    intro j n e j0 hn
    obtain ⟨n, rfl⟩ : ∃ q, n = q + 1 := ⟨n - 1, by omega⟩
    show zf_M_hasOpenSum_l0_b k W (zf_M_hasOpenSum_l0 k W n) j = _ ∧ _ ∨ zf_M_hasOpenSum_l0_b k W (zf_M_hasOpenSum_l0 k W n) j = _ ∧ _
    unfold zf_M_hasOpenSum_l0_b
    rw [if_pos (by omega), zl_ci j0 (by omega), zi_w_id (x := j + 1) (by omega) (by omega)]
    by_cases h : zi_div (W j) 1048576 = 14
    · rw [if_pos h]
      exact Or.inr ⟨rfl, j, Int.le_refl _, by omega, h⟩
    · rw [if_neg h]
      rcases ih (j + 1) n (by omega) (by omega) (by omega) with ⟨a, c⟩ | ⟨a, i, c1, c2, c3⟩
      · exact Or.inl ⟨a, fun ⟨i, d1, d2, d3⟩ => c ⟨i, by
          by_cases ei : i = j
          · subst ei; exact absurd d3 h
          · omega, d2, d3⟩⟩
      · exact Or.inr ⟨a, i, by omega, c2, c3⟩
theorem ze_hasOpenSum {w : List Int} {k : Int} (b0 : 0 ≤ b) (k2 : k ≤ 220) (hw : yk_w b w W k) : zf_M_hasOpenSum b k W = some (if 14 ∈ w then 1 else 0) := by
  have hk := yk_w_le hw
  unfold zf_M_hasOpenSum
  rcases yk_has_l0 (W := W) b0 k2 w.length b zi_fu (by omega) b0 (by have : 1000 < zi_fu := (by decide); omega) with ⟨a, c⟩ | ⟨a, c⟩
  · rw [a, if_neg (fun h => c ((yk_w_mem b0 hw).mp h))]
    rfl
  · rw [a, if_pos ((yk_w_mem b0 hw).mpr c)]
    rfl
theorem ze_Mnum_l0 {len f x : Int} (hT : yk_T T M) (hl : len ≤ 200) (x0 : 0 ≤ x) : ∀ (k : Nat) (v p : Int) (n : Nat), p + k = x + 5 → k ≤ 5 → k < n → 0 ≤ v → v ≤ yp_bd k → 0 ≤ p → p ≤ len → zf_M_readsNumber_l0 x len f M n p v = if yp_dg (yp_pk T len (yp_nm T len k v p).2) = true then some (.inr (0, (yp_nm T len k v p).2, (yp_nm T len k v p).1, -2000 - (yp_nm T len k v p).2)) else some (.inl ((yp_nm T len k v p).2, (yp_nm T len k v p).1)) := by
  intro k
  induction k with
  | zero =>
    intro v p n e _ hn v1 v2 p1 p2
    obtain ⟨n, rfl⟩ : ∃ q, n = q + 1 := ⟨n - 1, by omega⟩
    show zf_M_readsNumber_l0_b x len f M (zf_M_readsNumber_l0 x len f M n) p v = if yp_dg (yp_pk T len p) = true then some (.inr (0, p, v, -2000 - p)) else some (.inl (p, v))
    unfold zf_M_readsNumber_l0_b
    rw [ze_Mdigit hT p1 (by omega), zl_b, zi_w_id (x := x + 5) (by omega) (by omega)]
    by_cases h : yp_dg (yp_pk T len p) = true
    · rw [if_pos h, if_pos h, if_neg (by decide), if_pos (by omega), ze_wrong p1 (by omega) (by decide) (by decide), zl_b]
      rfl
    · rw [if_neg h, if_neg h, if_pos rfl]
  | succ k ih =>
    intro v p n e hk hn v1 v2 p1 p2
    obtain ⟨n, rfl⟩ : ∃ q, n = q + 1 := ⟨n - 1, by omega⟩
    obtain ⟨b1, b2⟩ := yp_bd_s k (by omega)
    show zf_M_readsNumber_l0_b x len f M (zf_M_readsNumber_l0 x len f M n) p v = _
    unfold zf_M_readsNumber_l0_b
    rw [ze_Mdigit hT p1 (by omega), zl_b, zi_w_id (x := x + 5) (by omega) (by omega)]
    by_cases h : yp_dg (yp_pk T len p) = true
    · have hd := yp_dg_t.mp h
      have hp2 : p < len := yp_pk_lt (T := T) (by omega)
      have e2 : yp_nm T len (k + 1) v p = yp_nm T len k (10 * v + yp_pk T len p - 48) (p + 1) := by
        show (if yp_dg (yp_pk T len p) = true then _ else _) = _
        rw [if_pos h]
      rw [e2, if_pos h, if_neg (by decide), if_neg (by omega), ze_here hT p1 (by omega), zl_b, zi_w_id (x := 10 * v) (by omega) (by omega), zi_w_id (x := 10 * v + yp_pk T len p) (by omega) (by omega), zi_w_id (x := 10 * v + yp_pk T len p - 48) (by omega) (by omega), zi_w_id (x := p + 1) (by omega) (by omega)]
      exact ih _ _ _ (by omega) (by omega) (by omega) (by omega) (by omega) (by omega) (by omega)
    · have e2 : yp_nm T len (k + 1) v p = (v, p) := by
        show (if yp_dg (yp_pk T len p) = true then _ else _) = _
        rw [if_neg h]
      rw [e2, if_neg h, if_pos rfl]
      show _ = if yp_dg (yp_pk T len p) = true then _ else _
      rw [if_neg h]
theorem ze_Mnum {len f g p : Int} (hT : yk_T T M) (hl : len ≤ 200) (p1 : 0 ≤ p) (p2 : p ≤ len) : zf_M_readsNumber p g len f M = some (if yp_dg (yp_pk T len (yp_nm T len 5 0 p).2) = true then (0, (yp_nm T len 5 0 p).2, (yp_nm T len 5 0 p).1, -2000 - (yp_nm T len 5 0 p).2) else (1, (yp_nm T len 5 0 p).2, (yp_nm T len 5 0 p).1, f)) := by
  unfold zf_M_readsNumber
  rw [ze_Mnum_l0 hT hl p1 5 0 p zi_fu (by omega) (by decide) (by decide) (by decide) (by decide) p1 p2]
  by_cases h : yp_dg (yp_pk T len (yp_nm T len 5 0 p).2) = true
  · rw [if_pos h, if_pos h]; rfl
  · rw [if_neg h, if_neg h]; rfl
end ZKS
/-- a state of the reference while it reads a sum -/
def yk_st (b o0 len : Int) (sl : Nat) (lo : Int) (W0 : Int → Int) (w : List Int) (c : zCD) (k p o m : Int) (W D : Int → Int) : Prop :=
  yk_w b w W k ∧ yk_c c m D ∧ o = o0 + yk_n w ∧ (0 ≤ p ∧ p ≤ len) ∧ k ≤ p ∧ (c.1 + w.length + sl ≤ p ∧ lo ≤ c.1) ∧ (∀ j, j < b → W j = W0 j)
section ZKR
variable {T M W0 : Int → Int} {b o0 len lo : Int} {sl : Nat}
theorem ys_fact_l (hT : yk_T T M) (hl : len ≤ 200) (b0 : 0 ≤ b) (o1 : 0 ≤ o0) : ∀ (N : Nat) (w : List Int) (o p : Int) (c : zCD) (k f m num : Int) (W D : Int → Int) (r : Int ⊕ (Int × zCD)) (n : Nat), yp_S T len N true w o p c = some r → yk_st b o0 len sl lo W0 w c k p o m W D → o ≤ 6 → N < n →
    zh_ok (zf_M_readsFactor_l0 len m num M D n p o k f W) (fun t => Sum.elim (fun e => ∃ N' w', N' ≤ N ∧ yp_S T len N' true w' e.2.1 e.1 c = some r ∧ yp_pk T len e.1 ≠ 91 ∧ e.2.1 ≤ 6 ∧ yk_st b o0 len sl lo W0 w' c e.2.2.1 e.1 e.2.1 m e.2.2.2.2 D ∧ e.2.2.2.1 = f) (fun t => t.1 = 0 ∧ r = .inl t.2.2.2.2.1) t) := by
  intro N
  induction N with
  | zero => intro w o p c k f m num W D r n h; exact zl_ns h
  | succ N ih =>
    intro w o p c k f m num W D r n h hs o6 hn
    obtain ⟨n, rfl⟩ : ∃ q, n = q + 1 := ⟨n - 1, by omega⟩
    have hs0 := hs
    obtain ⟨s1, s2, s3, ⟨s4, s5⟩, s6, ⟨s7, s9⟩, s8⟩ := hs
    have hk := yk_w_le s1
    have hn0 := yk_n0 w
    show zh_ok (zf_M_readsFactor_l0_b len m num M D (zf_M_readsFactor_l0 len m num M D n) p o k f W) _
    unfold zf_M_readsFactor_l0_b
    rw [ze_here hT s4 (by omega), zl_b]
    by_cases h91 : yp_pk T len p = 91
    · have hp : p < len := yp_pk_lt (T := T) (by omega)
      rw [yp_S_t, if_pos h91] at h
      rw [if_pos h91]
      by_cases ho : o = 6
      · rw [if_pos ho] at h
        cases h
        rw [ze_opens6 ho s4 (by omega), zl_b]
        show zh_ok (if (0 : Int) = 0 then _ else _) _
        rw [if_pos rfl]
        exact zh_ret ⟨rfl, rfl⟩
      · rw [if_neg ho] at h
        rw [ze_opens ho (by omega) (by omega) s4 (by omega) (by omega) (by omega) (by decide) (by decide), zl_b]
        show zh_ok (if (1 : Int) = 0 then _ else _) _
        rw [if_neg (by decide)]
        have hst : yk_st b o0 len sl lo W0 (14 :: w) c (k + 1) (p + 1) (o + 1) m (zv_up W k (1048576 * 14)) D := by
          refine ⟨⟨?_, Or.inr rfl, ?_⟩, s2, ?_, ⟨by omega, by omega⟩, by omega, ⟨?_, s9⟩, fun j hj => ?_⟩
          · rw [show k + 1 - 1 = k by omega, zv_up_s]
          · rw [show k + 1 - 1 = k by omega]
            exact yk_w_up s1 fun j hj => zv_up_n (by omega)
          · show o + 1 = o0 + ((if (14 : Int) = 14 then 1 else 0) + yk_n w)
            rw [if_pos rfl]; omega
          · show c.1 + ((w.length + 1 : Nat) : Int) + sl ≤ p + 1
            omega
          · rw [zv_up_n (by omega)]; exact s8 j hj
        refine zh_mono (ih (14 :: w) (o + 1) (p + 1) c (k + 1) f m num _ D r n h hst (by omega) (by omega)) fun t ht => ?_
        cases t with
        | inl e =>
          obtain ⟨N', w', a1, a2⟩ := ht
          exact ⟨N', w', by omega, a2⟩
        | inr e => exact ht
    · rw [if_neg h91]
      exact zh_ret ⟨N + 1, w, Nat.le_refl _, h, h91, o6, hs0, rfl⟩
theorem ys_fact (hT : yk_T T M) (hl : len ≤ 200) (b0 : 0 ≤ b) (o1 : 0 ≤ o0) {N : Nat} {w : List Int} {o p : Int} {c : zCD} {k f m num : Int} {W D : Int → Int} {r : Int ⊕ (Int × zCD)} (h : yp_S T len N true w o p c = some r) (hs : yk_st b o0 len sl lo W0 w c k p o m W D) (o6 : o ≤ 6) (hN : N < zi_fu) :
    zh_ok (zf_M_readsFactor p len o k f m num M W D) (fun t => (t.1 = 0 ∧ r = .inl t.2.2.2.2.1) ∨ (t.1 = 1 ∧ ∃ N' w' c', N' < N ∧ yp_S T len N' false w' t.2.2.1 t.2.1 c' = some r ∧ t.2.2.1 ≤ 6 ∧ yk_st b o0 len sl lo W0 w' c' t.2.2.2.1 t.2.1 t.2.2.1 t.2.2.2.2.2.1 t.2.2.2.2.2.2.2.1 t.2.2.2.2.2.2.2.2)) := by
  unfold zf_M_readsFactor
  refine zh_bind (ys_fact_l hT hl b0 o1 N w o p c k f m num W D r zi_fu h hs o6 hN) fun t ht => ?_
  cases t with
  | inr e => exact zh_ret (Or.inl ht)
  | inl e =>
    obtain ⟨N', w', a1, a2, a3, a4, a5, a6⟩ := ht
    show zh_ok ((zf_M_isDigit e.1 len M).bind _) _
    have a5' := a5
    obtain ⟨s1, s2, s3, ⟨s4, s5⟩, s6, ⟨s7, s9⟩, s8⟩ := a5
    obtain ⟨⟨me, m0⟩, -⟩ := id s2
    obtain ⟨N', rfl⟩ : ∃ q, N' = q + 1 := by
      cases N' with
      | zero => exact zl_ns a2
      | succ q => exact ⟨q, rfl⟩
    rw [yp_S_t, if_neg a3] at a2
    rw [ze_Mdigit hT s4 (by omega), zl_b]
    by_cases hd : yp_dg (yp_pk T len e.1) = true
    · rw [if_pos hd] at a2
      rw [if_pos hd, if_neg (by decide), ze_Mnum hT hl s4 s5, zl_b]
      have hdd := yp_dg_t.mp hd
      obtain ⟨q1, q2, q3, q4⟩ := yp_nm_in (T := T) (len := len) 5 0 e.1 (by decide) (by decide) (by decide) s5
      have q5 : e.1 < (yp_nm T len 5 0 e.1).2 := yp_nm_lt (T := T) (k := 4) hd (by decide) (by decide : (0 : Int) ≤ 0) (by decide)
      generalize yp_nm T len 5 0 e.1 = q at a2 q1 q2 q3 q4 q5 ⊢
      by_cases h6 : yp_dg (yp_pk T len q.2) = true
      · rw [if_pos h6] at a2
        cases a2
        rw [if_pos h6]
        show zh_ok (if (0 : Int) = 0 then _ else _) _
        rw [if_pos rfl]
        exact zh_ret (Or.inl ⟨rfl, rfl⟩)
      · rw [if_neg h6] at a2
        rw [if_neg h6]
        show zh_ok (if (1 : Int) = 0 then _ else _) _
        rw [if_neg (by decide)]
        show zh_ok ((zf_M_notes 0 q.1 m D).bind _) _
        rw [ze_notes (by omega) (by omega) (by decide) (by decide) q1.1 (by omega), zl_b]
        have hc2 := yk_c_em (kk := 0) (v := q.1) s2 (by decide) (by decide) q1.1 (by omega)
        refine zh_ret (Or.inr ⟨rfl, N', w', _, by omega, a2, a4, s1, hc2, s3, ⟨?_, q4⟩, ?_, ⟨?_, ?_⟩, s8⟩)
        · show 0 ≤ q.2; omega
        · show e.2.2.1 ≤ q.2; omega
        · show c.1 + 1 + _ + _ ≤ q.2; omega
        · show lo ≤ c.1 + 1; omega
    · rw [if_neg hd] at a2
      rw [if_neg hd, if_pos rfl, ze_here hT s4 (by omega), zl_b]
      have hpi := yp_pk_in hT s4 (show len ≤ 220 by omega)
      rw [ze_factOf hpi.1 hpi.2, zl_b]
      by_cases hl1 : yp_lt (yp_pk T len e.1) = -1
      · rw [if_pos hl1] at a2
        cases a2
        rw [if_pos hl1, ze_wrong s4 (by omega) (by decide) (by decide), zl_b]
        exact zh_ret (Or.inl ⟨rfl, rfl⟩)
      · rw [if_neg hl1] at a2
        have hli := (yp_lt_in (yp_pk T len e.1)).resolve_left hl1
        have hp : e.1 < len := yp_pk_lt (T := T) (fun h => by rw [h] at hl1; exact hl1 (by decide))
        rw [if_neg hl1, ze_notes (by omega) (by omega) (by decide) (by decide) hli.1 (by omega), zl_b, zi_w_id (x := e.1 + 1) (by omega) (by omega)]
        have hc2 := yk_c_em (kk := 1) (v := yp_lt (yp_pk T len e.1)) s2 (by decide) (by decide) hli.1 (by omega)
        refine zh_ret (Or.inr ⟨rfl, N', w', _, by omega, a2, a4, s1, hc2, s3, ⟨?_, ?_⟩, ?_, ⟨?_, ?_⟩, s8⟩)
        · show 0 ≤ e.1 + 1; omega
        · show e.1 + 1 ≤ len; omega
        · show e.2.2.1 ≤ e.1 + 1; omega
        · show c.1 + 1 + _ + _ ≤ e.1 + 1; omega
        · show lo ≤ c.1 + 1; omega
theorem yk_w_all {w : List Int} : ∀ {k : Int} {W : Int → Int}, yk_w b w W k → ∀ s ∈ w, (2 ≤ s ∧ s ≤ 6) ∨ s = 14 := by
  induction w with
  | nil => intro k W _ s hs; cases hs
  | cons s w ih =>
    intro k W h x hx
    rcases List.mem_cons.mp hx with e | e
    · rw [e]; exact h.2.1
    · exact ih h.2.2 x e
theorem yk_cl14 : ∀ (w : List Int) (c : zCD), (∀ s ∈ w, (2 ≤ s ∧ s ≤ 6) ∨ s = 14) → 14 ∈ w → ∃ w2, (yp_cl true w c).1 = 14 :: w2
  | [], _, _, hm => by cases hm
  | s :: w, c, ha, hm => by
    rw [yp_cl_c]
    by_cases h : s = 14
    · subst h
      exact ⟨w, by rw [if_neg (by intro h; rcases h with h | ⟨_, h⟩ <;> omega)]⟩
    · have hs := (ha s List.mem_cons_self).resolve_right h
      rw [if_pos (by
        by_cases h4 : 4 ≤ s
        · exact Or.inl ⟨h4, hs.2⟩
        · exact Or.inr ⟨rfl, by omega⟩)]
      exact yk_cl14 w _ (fun x hx => ha x (List.mem_cons_of_mem _ hx)) ((List.mem_cons.mp hm).resolve_left (fun e => h e.symm))
theorem yk_cl0 : ∀ (w : List Int) (c : zCD), (∀ s ∈ w, (2 ≤ s ∧ s ≤ 6) ∨ s = 14) → ¬ 14 ∈ w → (yp_cl true w c).1 = []
  | [], _, _, _ => rfl
  | s :: w, c, ha, hm => by
    rw [yp_cl_c]
    have hs := (ha s List.mem_cons_self).resolve_right (fun e => hm (by rw [e]; exact List.mem_cons_self))
    rw [if_pos (by
      by_cases h4 : 4 ≤ s
      · exact Or.inl ⟨h4, hs.2⟩
      · exact Or.inr ⟨rfl, by omega⟩)]
    exact yk_cl0 w _ (fun x hx => ha x (List.mem_cons_of_mem _ hx)) (fun e => hm (List.mem_cons_of_mem _ e))
theorem ys_loop (hT : yk_T T M) (hl : len ≤ 200) (b0 : 0 ≤ b) (hb : yk_b b W0) (o1 : 0 ≤ o0) : ∀ (B N : Nat), N ≤ B → B < zi_fu → ∀ (w : List Int) (o p : Int) (c : zCD) (k f m num : Int) (W D : Int → Int) (r : Int ⊕ (Int × zCD)) (n : Nat), yp_S T len N false w o p c = some r → yk_st b o0 len sl lo W0 w c k p o m W D → o ≤ 6 → N < n →
    zh_ok (zf_M_readsSum_l0 b len M n k p o f m num W D) (fun t => Sum.elim (fun e => ∃ w' c', yp_S T len 1 false w' e.2.2.1 e.2.1 c' = some r ∧ yp_ss (yp_pk T len e.2.1) = -1 ∧ ¬ (yp_pk T len e.2.1 = 93 ∧ 14 ∈ w') ∧ yk_st b o0 len sl lo W0 w' c' e.1 e.2.1 e.2.2.1 e.2.2.2.2.1 e.2.2.2.2.2.2.1 e.2.2.2.2.2.2.2) (fun t => t.1 = 0 ∧ r = .inl t.2.2.2.2.1) t) := by
  intro B
  induction B with
  | zero =>
    intro N hN _ w o p c k f m num W D r n h
    obtain rfl : N = 0 := by omega
    exact zl_ns h
  | succ B ih =>
    intro N hN hB w o p c k f m num W D r n h hs o6 hn
    obtain ⟨N, rfl⟩ : ∃ q, N = q + 1 := by
      cases N with
      | zero => exact zl_ns h
      | succ q => exact ⟨q, rfl⟩
    obtain ⟨n, rfl⟩ : ∃ q, n = q + 1 := ⟨n - 1, by omega⟩
    have hs0 := hs
    obtain ⟨s1, s2, s3, ⟨s4, s5⟩, s6, ⟨s7, s9⟩, s8⟩ := hs
    obtain ⟨⟨me, m0⟩, -⟩ := id s2
    have hk := yk_w_le s1
    have hn0 := yk_n0 w
    have hbW : yk_b b W := by
      rcases hb with h | ⟨h1, h2⟩
      · exact Or.inl h
      · exact Or.inr ⟨h1, by rw [s8 _ (by omega)]; exact h2⟩
    have fu : 1000 < zi_fu := by decide
    have h0 := h
    rw [yp_S_f] at h
    show zh_ok (zf_M_readsSum_l0_b b len M (zf_M_readsSum_l0 b len M n) k p o f m num W D) _
    unfold zf_M_readsSum_l0_b
    rw [ze_here hT s4 (by omega), zl_b, ze_sumSign, zl_b]
    by_cases hss : yp_ss (yp_pk T len p) = -1
    · rw [if_neg (fun h => h hss)] at h
      rw [if_pos hss, zl_b]
      by_cases h93 : yp_pk T len p = 93
      · rw [if_pos h93, ze_hasOpenSum b0 (by omega) s1, zl_b]
        by_cases hm : 14 ∈ w
        · rw [if_pos hm, if_pos h93] at h
          rw [if_pos hm, if_neg (by decide)]
          have hp : p < len := yp_pk_lt (T := T) (by omega)
          unfold zf_M_closesSums
          have hcl := yp_cl_len (all := true) w c
          have hnc := yk_n_cl (all := true) w c
          obtain ⟨t, et, t1, t2, t3⟩ := yk_closes (Or.inr ⟨rfl, rfl⟩) hbW b0 w c k m D zi_fu s1 (by omega) s2 (by omega) (by omega)
          rw [et, zl_b, zl_b]
          obtain ⟨w2, hw2⟩ := yk_cl14 w c (yk_w_all s1) hm
          rw [hw2] at t1 h hcl hnc
          obtain ⟨t1a, t1b, t1c⟩ := t1
          have ht := yk_w_le t1c
          have hcl1 : (yp_cl true w c).2.1 + ((w2.length + 1 : Nat) : Int) = c.1 + w.length := hcl.1
          have hnc : (if (14 : Int) = 14 then 1 else 0) + yk_n w2 = yk_n w := hnc
          rw [if_pos rfl] at hnc
          have hn2 := yk_n0 w2
          rw [zi_w_id (x := t.1 - 1) (by omega) (by omega), zi_w_id (x := p + 1) (by omega) (by omega), zi_w_id (x := o - 1) (by omega) (by omega)]
          exact ih N (by omega) (by omega) w2 (o - 1) (p + 1) (yp_cl true w c).2 (t.1 - 1) f t.2.1 num W t.2.2 r n h ⟨t1c, t3, by omega, ⟨by omega, by omega⟩, by omega, ⟨by omega, by have := hcl.2; omega⟩, s8⟩ (by omega) (by omega)
        · rw [if_neg hm, if_pos rfl]
          exact zh_ret ⟨w, c, by rw [yp_S_f, if_neg (fun h => h hss), if_neg hm]; rw [if_neg hm] at h; exact h, hss, fun h => hm h.2, hs0⟩
      · rw [if_neg h93]
        refine zh_ret ⟨w, c, ?_, hss, fun h => h93 h.1, hs0⟩
        rw [yp_S_f, if_neg (fun h => h hss)]
        by_cases hm : 14 ∈ w
        · rw [if_pos hm, if_neg h93] at h ⊢; exact h
        · rw [if_neg hm] at h ⊢; exact h
    · rw [if_pos hss] at h
      have hsr := (yp_ss_in (yp_pk T len p)).resolve_left hss
      have hp : p < len := yp_pk_lt (T := T) (fun e => by rw [e] at hss; exact hss (by decide))
      rw [if_neg hss]
      have go : ∀ all a, ((a = 0 ∧ all = false) ∨ (a = 1 ∧ all = true)) → yp_S T len N true (yp_ss (yp_pk T len p) :: (yp_cl all w c).1) o (p + 1) (yp_cl all w c).2 = some r →
          zh_ok ((zf_M_closesSums a k m W D).bind fun r12 => (cond (zi_ix r12.1 220) ((zf_M_readsFactor (zi_w (p + 1)) len o (zi_w (r12.1 + 1)) f r12.2.1 num M (zv_up W r12.1 (zi_w (1048576 * yp_ss (yp_pk T len p)))) r12.2.2).bind fun r14 => (if r14.1 = 0 then (some (.inr (0, r14.2.2.2.1, r14.2.1, r14.2.2.1, r14.2.2.2.2.1, r14.2.2.2.2.2.1, r14.2.2.2.2.2.2.1, r14.2.2.2.2.2.2.2.1, r14.2.2.2.2.2.2.2.2))) else (zf_M_readsSum_l0 b len M n r14.2.2.2.1 r14.2.1 r14.2.2.1 r14.2.2.2.2.1 r14.2.2.2.2.2.1 r14.2.2.2.2.2.2.1 r14.2.2.2.2.2.2.2.1 r14.2.2.2.2.2.2.2.2))) none))
            (fun t => Sum.elim (fun e => ∃ w' c', yp_S T len 1 false w' e.2.2.1 e.2.1 c' = some r ∧ yp_ss (yp_pk T len e.2.1) = -1 ∧ ¬ (yp_pk T len e.2.1 = 93 ∧ 14 ∈ w') ∧ yk_st b o0 len sl lo W0 w' c' e.1 e.2.1 e.2.2.1 e.2.2.2.2.1 e.2.2.2.2.2.2.1 e.2.2.2.2.2.2.2) (fun t => t.1 = 0 ∧ r = .inl t.2.2.2.2.1) t) := by
        intro all a ha h
        have hcl := yp_cl_len (all := all) w c
        have hnc := yk_n_cl (all := all) w c
        unfold zf_M_closesSums
        obtain ⟨t, et, t1, t2, t3⟩ := yk_closes ha hbW b0 w c k m D zi_fu s1 (by omega) s2 (by omega) (by omega)
        have ht := yk_w_le t1
        rw [et, zl_b, zl_b, zl_ci (show 0 ≤ t.1 by omega) (show t.1 < ((220 : Nat) : Int) by omega)]
        show zh_ok ((zf_M_readsFactor (zi_w (p + 1)) len o (zi_w (t.1 + 1)) f t.2.1 num M (zv_up W t.1 (zi_w (1048576 * yp_ss (yp_pk T len p)))) t.2.2).bind _) _
        rw [zi_w_id (x := p + 1) (by omega) (by omega), zi_w_id (x := t.1 + 1) (by omega) (by omega), zi_w_id (x := 1048576 * yp_ss (yp_pk T len p)) (by omega) (by omega)]
        have hst : yk_st b o0 len sl lo W0 (yp_ss (yp_pk T len p) :: (yp_cl all w c).1) (yp_cl all w c).2 (t.1 + 1) (p + 1) o t.2.1 (zv_up W t.1 (1048576 * yp_ss (yp_pk T len p))) t.2.2 := by
          refine ⟨⟨?_, Or.inl hsr, ?_⟩, t3, ?_, ⟨by omega, by omega⟩, by omega, ⟨?_, by have := hcl.2; omega⟩, fun j hj => ?_⟩
          · rw [show t.1 + 1 - 1 = t.1 by omega, zv_up_s]
          · rw [show t.1 + 1 - 1 = t.1 by omega]
            exact yk_w_up t1 fun j hj => zv_up_n (by omega)
          · show o = o0 + ((if yp_ss (yp_pk T len p) = 14 then 1 else 0) + yk_n (yp_cl all w c).1)
            rw [if_neg (by omega), hnc]; omega
          · show (yp_cl all w c).2.1 + (((yp_cl all w c).1.length + 1 : Nat) : Int) + sl ≤ p + 1
            omega
          · rw [zv_up_n (by omega)]; exact s8 j hj
        refine zh_bind (ys_fact hT hl b0 o1 h hst o6 (by omega)) fun q hq => ?_
        rcases hq with ⟨q1, q2⟩ | ⟨q1, N', w', c', q2, q3, q4, q5⟩
        · rw [if_pos q1]
          exact zh_ret ⟨rfl, q2⟩
        · rw [if_neg (by omega)]
          exact ih N' (by omega) (by omega) w' _ _ c' _ _ _ _ _ _ r n q3 q5 q4 (by omega)
      by_cases h4 : yp_ss (yp_pk T len p) < 4
      · rw [if_pos h4]
        rw [decide_eq_true h4] at h
        exact go true 1 (Or.inr ⟨rfl, rfl⟩) h
      · rw [if_neg h4]
        rw [decide_eq_false h4] at h
        exact go false 0 (Or.inl ⟨rfl, rfl⟩) h
theorem ys_sum (hT : yk_T T M) (hl : len ≤ 200) (b0 : 0 ≤ b) {N : Nat} {o p : Int} {c : zCD} {f m num : Int} {W D : Int → Int} {r : Int ⊕ (Int × zCD)} (h : yp_S T len N true [] o p c = some r) (hN : N < 2000) (hb : yk_b b W) (hc : yk_c c m D) (p1 : 0 ≤ p) (p2 : p ≤ len) (kp : b ≤ p) (cp : c.1 + sl ≤ p) (o1 : 0 ≤ o) (o6 : o ≤ 6) :
    zh_ok (zf_M_readsSum b p len o f m num M W D) (fun t => (t.1 = 0 ∧ r = .inl t.2.2.2.2.1) ∨ (t.1 = 1 ∧ ∃ c', r = .inr (t.2.2.1, c') ∧ t.2.1 = b ∧ t.2.2.2.1 = o ∧ yk_c c' t.2.2.2.2.2.1 t.2.2.2.2.2.2.2.2 ∧ (0 ≤ t.2.2.1 ∧ t.2.2.1 ≤ len) ∧ b ≤ t.2.2.1 ∧ (c'.1 + sl ≤ t.2.2.1 ∧ c.1 ≤ c'.1) ∧ ∀ j, j < b → t.2.2.2.2.2.2.2.1 j = W j)) := by
  have fu : 1000000 < zi_fu := by decide
  unfold zf_M_readsSum
  refine zh_bind (ys_fact (b := b) (o0 := o) (sl := sl) (lo := c.1) (W0 := W) (w := []) hT hl b0 o1 h ⟨rfl, hc, (by show o = o + 0; omega), ⟨p1, p2⟩, kp, ⟨(by show c.1 + ((0 : Nat) : Int) + sl ≤ p; omega), Int.le_refl _⟩, fun _ _ => rfl⟩ o6 (by omega)) fun q hq => ?_
  rcases hq with ⟨q1, q2⟩ | ⟨q1, N', w', c', q2, q3, q4, q5⟩
  · rw [if_pos q1]
    exact zh_ret (Or.inl ⟨rfl, q2⟩)
  · rw [if_neg (by omega)]
    refine zh_bind (ys_loop hT hl b0 hb o1 2000 N' (by omega) (by omega) w' _ _ c' _ _ _ _ _ _ r zi_fu q3 q5 q4 (by omega)) fun t ht => ?_
    cases t with
    | inr e => exact zh_ret (Or.inl ht)
    | inl e =>
      obtain ⟨w2, c2, a1, a2, a3, a4⟩ := ht
      obtain ⟨s1, s2, s3, ⟨s4, s5⟩, s6, ⟨s7, s9⟩, s8⟩ := a4
      have hk := yk_w_le s1
      rw [yp_S_f, if_neg (fun h => h a2)] at a1
      show zh_ok ((zf_M_hasOpenSum b e.1 e.2.2.2.2.2.2.1).bind _) _
      rw [ze_hasOpenSum b0 (by omega) s1, zl_b]
      by_cases hm : 14 ∈ w2
      · rw [if_pos hm, if_neg (fun h => a3 ⟨h, hm⟩)] at a1
        cases a1
        rw [if_pos hm, if_neg (by decide), ze_wrong s4 (by omega) (by decide) (by decide), zl_b]
        exact zh_ret (Or.inl ⟨rfl, rfl⟩)
      · rw [if_neg hm] at a1
        cases a1
        rw [if_neg hm, if_pos rfl]
        have hbW : yk_b b e.2.2.2.2.2.2.1 := by
          rcases hb with h | ⟨h1, h2⟩
          · exact Or.inl h
          · exact Or.inr ⟨h1, by rw [s8 _ (by omega)]; exact h2⟩
        have hcl := yp_cl_len (all := true) w2 c2
        have h0 := yk_cl0 w2 c2 (yk_w_all s1) hm
        unfold zf_M_closesSums
        obtain ⟨t, et, t1, t2, t3⟩ := yk_closes (Or.inr ⟨rfl, rfl⟩) hbW b0 w2 c2 e.1 e.2.2.2.2.1 e.2.2.2.2.2.2.2 zi_fu s1 (by omega) s2 (by omega) (by omega)
        rw [et, zl_b, zl_b]
        rw [h0] at t1 hcl
        have t1 : t.1 = b := t1
        have hcl1 : (yp_cl true w2 c2).2.1 + ((0 : Nat) : Int) = c2.1 + w2.length := hcl.1
        have hz := yk_n_0 hm
        refine zh_ret (Or.inr ⟨rfl, _, rfl, t1, ?_, t3, ⟨s4, s5⟩, ?_, ⟨?_, by have := hcl.2; omega⟩, s8⟩)
        · show e.2.2.1 = o; omega
        · show b ≤ e.2.1; omega
        · show (yp_cl true w2 c2).2.1 + sl ≤ e.2.1; omega
end ZKR
end
section
/-! The reference's reader of conditions goes as the machine goes. -/
def yk_v : zWT → (Int → Int) → Int → Prop
  | [], _, k => k = 0
  | s :: w, W, k => W (k - 1) = 1048576 * s.1 + s.2 ∧ (10 ≤ s.1 ∧ s.1 ≤ 13) ∧ (0 ≤ s.2 ∧ s.2 < 200) ∧ yk_v w W (k - 1)
def yk_nn : zWT → Int
  | [] => 0
  | s :: w => (if s.1 = 10 then 1 else 0) + yk_nn w
def yk_no : zWT → Int
  | [] => 0
  | s :: w => (if s.1 = 10 ∨ s.1 = 13 then 1 else 0) + yk_no w
theorem yk_no_le : ∀ (w : zWT), yk_no w ≤ w.length
  | [] => Int.le_refl _
  | s :: w => by
    have := yk_no_le w
    show (if s.1 = 10 ∨ s.1 = 13 then 1 else 0) + yk_no w ≤ ((w.length + 1 : Nat) : Int)
    split <;> omega
def yk_j (w : zWT) (c : zCD) : Prop := ∀ s ∈ w, s.1 = 11 ∨ s.1 = 12 → s.2 < c.1
theorem yk_v_le {W : Int → Int} : ∀ {w : zWT} {k : Int}, yk_v w W k → k = w.length
  | [], k, h => h
  | s :: w, k, h => by
    have := yk_v_le (w := w) h.2.2.2
    show k = ((w.length + 1 : Nat) : Int)
    omega
theorem yk_v_up {W W2 : Int → Int} : ∀ {w : zWT} {k : Int}, yk_v w W k → (∀ j, j < k → W2 j = W j) → yk_v w W2 k
  | [], _, h, _ => h
  | s :: w, k, h, q => ⟨(q (k - 1) (by omega)).trans h.1, h.2.1, h.2.2.1, yk_v_up h.2.2.2 fun j hj => q j (by omega)⟩
theorem yk_nn0 : ∀ (w : zWT), 0 ≤ yk_nn w
  | [] => Int.le_refl _
  | s :: w => by
    have := yk_nn0 w
    show 0 ≤ (if s.1 = 10 then 1 else 0) + yk_nn w
    split <;> omega
theorem yk_no0 : ∀ (w : zWT), 0 ≤ yk_no w
  | [] => Int.le_refl _
  | s :: w => by
    have := yk_no0 w
    show 0 ≤ (if s.1 = 10 ∨ s.1 = 13 then 1 else 0) + yk_no w
    split <;> omega
def yk_bt : zWT → Prop
  | [] => False
  | s :: w => (w = [] ∧ s.1 = 13) ∨ yk_bt w
theorem yk_bt_la {all : Bool} : ∀ (w : zWT) (c : zCD), yk_bt w → yk_bt (yp_la all w c).1
  | [], _, h => h
  | s :: w, c, h => by
    rw [yp_la_c]
    split
    · rename_i q
      rcases h with ⟨_, h⟩ | h
      · exfalso
        rcases q with q | ⟨_, q⟩ <;> omega
      · exact yk_bt_la w _ h
    · exact h
def yk_cst (len : Int) (w : zWT) (c : zCD) (k p o m : Int) (W D : Int → Int) : Prop :=
  yk_v w W k ∧ yk_c c m D ∧ yk_j w c ∧ o = yk_no w ∧ (0 ≤ p ∧ p ≤ len) ∧ k ≤ p ∧ c.1 + yk_nn w ≤ p ∧ yk_bt w
section ZKC
variable {T M W : Int → Int} {len : Int}
theorem yk_top {s : Int × Int} {w : zWT} {k : Int} (h : yk_v (s :: w) W k) (k2 : k ≤ 220) : zf_M_waitTop k W = some s.1 := by
  have hk := yk_v_le h
  have hk : k = ((w.length + 1 : Nat) : Int) := hk
  rw [ze_waitTop (by omega) k2, (yk_div (W := W) (k := k - 1) (s := s.1) (x := s.2) h.1 (by have := h.2.1; omega) (by have := h.2.1; omega) h.2.2.1.1 (by have := h.2.2.1; omega)).1]
theorem yk_hd {w : zWT} {k : Int} (h : yk_v w W k) (k2 : k ≤ 220) : ∃ t, zf_M_waitTop k W = some t ∧ (t = 10 ↔ yp_hd w = 10) ∧ (t = 11 ↔ yp_hd w = 11) ∧ (t = 12 ↔ yp_hd w = 12) := by
  cases w with
  | nil =>
    have h : k = 0 := h
    subst h
    exact ⟨-1, ze_waitTop0, by decide, by decide, by decide⟩
  | cons s w => exact ⟨s.1, yk_top h k2, Iff.rfl, Iff.rfl, Iff.rfl⟩
theorem yk_base {w : zWT} {k : Int} (h : yk_v w W k) : yk_b k W := by
  cases w with
  | nil => exact Or.inl h
  | cons s w =>
    have hk := yk_v_le h
    have hk : k = ((w.length + 1 : Nat) : Int) := hk
    refine Or.inr ⟨by omega, ?_⟩
    rw [(yk_div (W := W) (k := k - 1) (s := s.1) (x := s.2) h.1 (by have := h.2.1; omega) (by have := h.2.1; omega) h.2.2.1.1 (by have := h.2.2.1; omega)).1]
    have := h.2.1
    omega
theorem yk_c_ln {c : zCD} {m j : Int} {D : Int → Int} (h : yk_c c m D) (j1 : 0 ≤ j) (j2 : j < c.1) (hc : c.1 < 1048576) : yk_c (yp_ln j c) m (zv_up D j (1048576 * zd_op (c.2.1 j) + m)) := by
  obtain ⟨⟨e, c0⟩, h⟩ := h
  subst e
  refine ⟨⟨rfl, c0⟩, fun i i1 i2 => ?_⟩
  have i2 : i < c.1 := i2
  show zv_up D j _ i = 1048576 * zd_op (c.2.1 i) + zv_up c.2.2 j c.1 i ∧ (0 ≤ c.2.1 i ∧ c.2.1 i ≤ 12) ∧ 0 ≤ zv_up c.2.2 j c.1 i ∧ zv_up c.2.2 j c.1 i < 1048576
  by_cases ei : i = j
  · subst ei
    rw [zv_up_s, zv_up_s]
    exact ⟨rfl, (h i i1 i2).2.1, c0, hc⟩
  · rw [zv_up_n ei, zv_up_n ei]
    exact h i i1 i2
theorem yp_la_1 {all : Bool} : ∀ (w : zWT) (c : zCD), (yp_la all w c).2.1 = c.1 ∧ yk_nn (yp_la all w c).1 = yk_nn w ∧ yk_no (yp_la all w c).1 = yk_no w ∧ (yp_la all w c).1.length ≤ w.length
  | [], c => ⟨rfl, rfl, rfl, Nat.le_refl _⟩
  | s :: w, c => by
    rw [yp_la_c]
    split
    · rename_i h
      obtain ⟨a, b, d, e⟩ := yp_la_1 (all := all) w (yp_ln s.2 c)
      refine ⟨a, ?_, ?_, Nat.le_succ_of_le e⟩
      · rw [b]
        show yk_nn w = (if s.1 = 10 then 1 else 0) + yk_nn w
        rw [if_neg (by rcases h with h | ⟨_, h⟩ <;> omega)]; omega
      · rw [d]
        show yk_no w = (if s.1 = 10 ∨ s.1 = 13 then 1 else 0) + yk_no w
        rw [if_neg (by rcases h with h | ⟨_, h⟩ <;> omega)]; omega
    · exact ⟨rfl, rfl, rfl, Nat.le_refl _⟩
theorem zl_w20 {q : Int} (h1 : 0 ≤ q) (h2 : q ≤ 12) : zi_w (1048576 * q) = 1048576 * q := zi_w_id (by omega) (by omega)
theorem zl_w21 {q m : Int} (h1 : 0 ≤ q) (h2 : q ≤ 12) (m1 : 0 ≤ m) (m2 : m ≤ 220) : zi_w (1048576 * q + m) = 1048576 * q + m := zi_w_id (by omega) (by omega)
theorem zd_op_in {k : Int} (h1 : 0 ≤ k) (h2 : k ≤ 12) : 0 ≤ zd_op k ∧ zd_op k ≤ 12 := by
  have h : ∀ n : Nat, n < 13 → 0 ≤ zd_op (n : Int) ∧ zd_op (n : Int) ≤ 12 := by decide
  have := h k.toNat (by omega)
  rwa [show ((k.toNat : Nat) : Int) = k by omega] at this
theorem yk_lands {all : Bool} {a : Int} (ha : (a = 0 ∧ all = false) ∨ (a = 1 ∧ all = true)) : ∀ (w : zWT) (c : zCD) (k m : Int) (D : Int → Int) (n : Nat), yk_v w W k → k ≤ 220 → yk_c c m D → yk_j w c → c.1 ≤ 220 → w.length < n →
    zh_ok (zf_M_lands_l0 a m W n k D) (fun t => yk_v (yp_la all w c).1 W t.1 ∧ yk_c (yp_la all w c).2 m t.2 ∧ yk_j (yp_la all w c).1 (yp_la all w c).2) := by
  intro w
  induction w with
  | nil =>
    intro c k m D n hw k2 hc hj hl hn
    obtain ⟨n, rfl⟩ : ∃ q, n = q + 1 := ⟨n - 1, by omega⟩
    have hk : k = 0 := hw
    show zh_ok (zf_M_lands_l0_b a m W (zf_M_lands_l0 a m W n) k D) _
    unfold zf_M_lands_l0_b
    subst hk
    rw [ze_waitTop0, zl_b, if_neg (by decide)]
    by_cases h0 : a = 0
    · rw [if_pos h0]; exact zh_ret ⟨hw, hc, hj⟩
    · rw [if_neg h0, zl_b, if_neg (by decide)]; exact zh_ret ⟨hw, hc, hj⟩
  | cons s w ih =>
    intro c k m D n hw k2 hc hj hl hn
    obtain ⟨n, rfl⟩ : ∃ q, n = q + 1 := ⟨n - 1, by omega⟩
    have hk := yk_v_le hw
    have hk : k = ((w.length + 1 : Nat) : Int) := hk
    have hn : w.length + 1 < n + 1 := hn
    have top := yk_top hw k2
    obtain ⟨w1, w2, w3, w4⟩ := id hw
    obtain ⟨me, m0⟩ := hc.1
    show zh_ok (zf_M_lands_l0_b a m W (zf_M_lands_l0 a m W n) k D) _
    unfold zf_M_lands_l0_b
    rw [top, zl_b, zi_w_id (x := k - 1) (by omega) (by omega)]
    obtain ⟨d1, d2⟩ := yk_div (W := W) (k := k - 1) (s := s.1) (x := s.2) w1 (by omega) (by omega) w3.1 (by omega)
    have go : s.1 = 11 ∨ s.1 = 12 → yp_la all (s :: w) c = yp_la all w (yp_ln s.2 c) → zh_ok (cond (zi_ix (k - 1) 220) (cond (zi_ix (zi_rem (W (k - 1)) 1048576) 220) (zf_M_lands_l0 a m W n (k - 1) (zv_up D (zi_rem (W (k - 1)) 1048576) (zi_w ((zi_w (1048576 * (zi_div (D (zi_rem (W (k - 1)) 1048576)) 1048576))) + m)))) none) none) (fun t => yk_v (yp_la all (s :: w) c).1 W t.1 ∧ yk_c (yp_la all (s :: w) c).2 m t.2 ∧ yk_j (yp_la all (s :: w) c).1 (yp_la all (s :: w) c).2) := by
      intro hs e
      have u3 : 0 ≤ k - 1 ∧ k - 1 < ((220 : Nat) : Int) := by omega
      have u4 : 0 ≤ s.2 ∧ s.2 < ((220 : Nat) : Int) := by omega
      have u5 : k - 1 ≤ 220 := by omega
      have u6 : c.1 < 1048576 := by omega
      have u7 : w.length < n := by omega
      have j2 := hj s List.mem_cons_self hs
      obtain ⟨q1, q2, q3, q4⟩ := hc.2 s.2 w3.1 j2
      have q5 := (zd_cd q1 q2.1 q2.2 q3 q4).1
      have q6 := zd_op_in q2.1 q2.2
      have u1 := zl_w20 q6.1 q6.2
      have u2 := zl_w21 q6.1 q6.2 (m := m) (by rw [me]; exact m0) (by rw [me]; exact hl)
      rw [zl_ci u3.1 u3.2, d2, zl_ci u4.1 u4.2, q5, u1, u2, e]
      exact ih (yp_ln s.2 c) (k - 1) m _ n w4 u5 (yk_c_ln hc w3.1 j2 u6) (fun x hx h => hj x (List.mem_cons_of_mem _ hx) h) hl u7
    by_cases h11 : s.1 = 11
    · rw [if_pos h11]
      exact go (Or.inl h11) (by rw [yp_la_c, if_pos (Or.inl h11)])
    · rw [if_neg h11]
      rcases ha with ⟨a0, ae⟩ | ⟨a1, ae⟩
      · rw [if_pos a0]
        have e : yp_la all (s :: w) c = (s :: w, c) := by
          rw [yp_la_c, if_neg]
          rw [ae]
          intro h
          rcases h with h | ⟨h, _⟩
          · exact h11 h
          · cases h
        rw [e]
        exact zh_ret ⟨hw, hc, hj⟩
      · rw [if_neg (by omega), zl_b]
        by_cases h12 : s.1 = 12
        · rw [if_pos h12]
          exact go (Or.inr h12) (by rw [yp_la_c, if_pos (Or.inr ⟨ae, h12⟩)])
        · rw [if_neg h12]
          have e : yp_la all (s :: w) c = (s :: w, c) := by
            rw [yp_la_c, if_neg]
            intro h
            rcases h with h | ⟨_, h⟩
            · exact h11 h
            · exact h12 h
          rw [e]
          exact zh_ret ⟨hw, hc, hj⟩
theorem yk_ends {p : Int} {r : Int ⊕ (Int × zCD)} (hl : len ≤ 200) : ∀ (N : Nat) (w : zWT) (o : Int) (c : zCD) (k m : Int) (D : Int → Int) (n : Nat), yp_C T len N false w o p c = some r → yk_cst len w c k p o m W D → N < n →
    zh_ok (zf_M_endsPiece_l0 W n k m o D) (fun t => ∃ N' w' c', N' ≤ N ∧ yp_C T len N' false w' t.2.2.1 p c' = some r ∧ yp_hd w' ≠ 10 ∧ yk_cst len w' c' t.1 p t.2.2.1 t.2.1 W t.2.2.2 ∧ t.2.2.1 ≤ o) := by
  intro N
  induction N with
  | zero => intro w o c k m D n h; exact zl_ns h
  | succ N ih =>
    intro w o c k m D n h hs hn
    obtain ⟨n, rfl⟩ : ∃ q, n = q + 1 := ⟨n - 1, by omega⟩
    have hs0 := hs
    obtain ⟨s1, s2, s3, s4, ⟨s5, s6⟩, s7, s8, s9⟩ := hs
    obtain ⟨t, ht, t10, -⟩ := yk_hd s1 (by omega)
    obtain ⟨me, m0⟩ := s2.1
    show zh_ok (zf_M_endsPiece_l0_b W (zf_M_endsPiece_l0 W n) k m o D) _
    unfold zf_M_endsPiece_l0_b
    rw [ht, zl_b]
    by_cases h10 : yp_hd w = 10
    · rw [if_pos (t10.mpr h10)]
      rw [yp_C_f, if_pos h10] at h
      cases w with
      | nil => cases h10
      | cons s w =>
        have h10 : s.1 = 10 := h10
        have hk := yk_v_le s1
        have hk : k = ((w.length + 1 : Nat) : Int) := hk
        have s4 : o = (if s.1 = 10 ∨ s.1 = 13 then 1 else 0) + yk_no w := s4
        have s8 : c.1 + ((if s.1 = 10 then 1 else 0) + yk_nn w) ≤ p := s8
        rw [if_pos (Or.inl h10)] at s4
        rw [if_pos h10] at s8
        have := yk_nn0 w
        have := yk_no0 w
        have hno := yk_no_le w
        rw [ze_notes (by omega) (by omega) (by decide) (by decide) (by decide) (by decide), zl_b, zi_w_id (x := k - 1) (by omega) (by omega), zi_w_id (x := o - 1) (by omega) (by omega)]
        have hc2 := yk_c_em (kk := 2) (v := 0) s2 (by decide) (by decide) (by decide) (by decide)
        refine zh_mono (ih w (o - 1) (yp_em 2 0 c) (k - 1) (m + 1) _ n h ⟨s1.2.2.2, hc2, fun x hx hh => ?_, by omega, ⟨s5, s6⟩, by omega, ?_, ?_⟩ (by omega)) fun t ⟨N', w', c', a1, a2, a3, a4, a5⟩ => ⟨N', w', c', by omega, a2, a3, a4, by omega⟩
        · have := s3 x (List.mem_cons_of_mem _ hx) hh
          show x.2 < c.1 + 1; omega
        · show c.1 + 1 + yk_nn w ≤ p; omega
        · rcases s9 with ⟨_, h⟩ | h
          · omega
          · exact h
    · rw [if_neg (fun e => h10 (t10.mp e))]
      exact zh_ret ⟨N + 1, w, c, Nat.le_refl _, h, h10, hs0, Int.le_refl _⟩
end ZKC
end
section
/-! two sums compared -/
section ZKD
variable {T M : Int → Int} {len : Int}
theorem ys_comp (hT : yk_T T M) (hl : len ≤ 200) {N : Nat} {w : zWT} {o p : Int} {c : zCD} {k f m num : Int} {W D : Int → Int} {r : Int ⊕ (Int × zCD)} (h : yp_C T len (N + 1) true w o p c = some r) (h33 : yp_pk T len p ≠ 33) (h40 : yp_pk T len p ≠ 40) (hs : yk_cst len w c k p o m W D) (o6 : o ≤ 6) (hN : N < 2000) :
    zh_ok (zf_M_readsCompared k p len o f m num M W D) (fun t => (t.1 = 0 ∧ r = .inl t.2.2.2.2.1) ∨ (t.1 = 1 ∧ ∃ N' w' c', N' ≤ N ∧ yp_C T len N' false w' t.2.2.2.1 t.2.2.1 c' = some r ∧ yp_hd w' ≠ 10 ∧ t.2.2.2.1 ≤ 6 ∧ yk_cst len w' c' t.2.1 t.2.2.1 t.2.2.2.1 t.2.2.2.2.2.1 t.2.2.2.2.2.2.2.1 t.2.2.2.2.2.2.2.2)) := by
  have fu : 1000000 < zi_fu := by decide
  obtain ⟨s1, s2, s3, s4, ⟨s5, s6⟩, s7, s8, s9⟩ := hs
  have n1 := yk_nn0 w
  have n2 := yk_no0 w
  have hk := yk_v_le s1
  rw [yp_C_t, if_neg h33, if_neg h40] at h
  obtain ⟨q, hq, h⟩ := zi_bind h
  unfold zf_M_readsCompared
  refine zh_bind (ys_sum (sl := (yk_nn w).toNat) hT hl (by omega) hq (by decide) (yk_base s1) s2 s5 s6 s7 (by omega) (by omega) o6) fun t ht => ?_
  rcases ht with ⟨t1, t2⟩ | ⟨t1, c1, t2, t3, t4, t5, ⟨t6, t7⟩, t8, ⟨t9, t11⟩, t10⟩
  · subst t2
    simp only [Sum.elim_inl] at h
    cases h
    rw [if_pos t1]
    exact zh_ret (Or.inl ⟨rfl, rfl⟩)
  · subst t2
    simp only [Sum.elim_inr] at h
    have v1 := yk_v_up s1 t10
    rw [if_neg (by omega), ze_here hT t6 (by omega), zl_b]
    have step : ∀ kk op, yp_cs (yp_pk T len t.2.2.1) = kk → (10 ≤ kk ∧ kk ≤ 12) → op = zd_op kk →
        zh_ok ((zf_M_readsSum t.2.1 (zi_w (t.2.2.1 + 1)) len t.2.2.2.1 t.2.2.2.2.1 t.2.2.2.2.2.1 t.2.2.2.2.2.2.1 M t.2.2.2.2.2.2.2.1 t.2.2.2.2.2.2.2.2).bind fun r23 => (if r23.1 = 0 then (some ((0 : Int), r23.2.1, r23.2.2.1, r23.2.2.2.1, r23.2.2.2.2.1, r23.2.2.2.2.2.1, r23.2.2.2.2.2.2.1, r23.2.2.2.2.2.2.2.1, r23.2.2.2.2.2.2.2.2)) else ((zf_M_notes op 0 r23.2.2.2.2.2.1 r23.2.2.2.2.2.2.2.2).bind fun r25 => ((zf_M_endsPiece r23.2.1 r25.1 r23.2.2.2.1 r23.2.2.2.2.2.2.2.1 r25.2).bind fun r26 => (some ((1 : Int), r26.1, r23.2.2.1, r26.2.2.1, r23.2.2.2.2.1, r26.2.1, r23.2.2.2.2.2.2.1, r23.2.2.2.2.2.2.2.1, r26.2.2.2))))))
        (fun t => (t.1 = 0 ∧ r = .inl t.2.2.2.2.1) ∨ (t.1 = 1 ∧ ∃ N' w' c', N' ≤ N ∧ yp_C T len N' false w' t.2.2.2.1 t.2.2.1 c' = some r ∧ yp_hd w' ≠ 10 ∧ t.2.2.2.1 ≤ 6 ∧ yk_cst len w' c' t.2.1 t.2.2.1 t.2.2.2.1 t.2.2.2.2.2.1 t.2.2.2.2.2.2.2.1 t.2.2.2.2.2.2.2.2)) := by
      intro kk op hkk k12 hop
      rw [if_neg (by omega)] at h
      have hp : t.2.2.1 < len := yp_pk_lt (T := T) (fun e => by rw [e] at hkk; have : yp_cs (-1) = -1 := (by decide); omega)
      obtain ⟨q2, hq2, h⟩ := zi_bind h
      rw [zi_w_id (x := t.2.2.1 + 1) (by omega) (by omega), t3, t4]
      refine zh_bind (ys_sum (sl := (yk_nn w).toNat + 1) hT hl (by omega) hq2 (by decide) (yk_base v1) t5 (by omega) (by omega) (by omega) (by omega) (by omega) o6) fun u hu => ?_
      rcases hu with ⟨u1, u2⟩ | ⟨u1, c2, u2, u3, u4, u5, ⟨u6, u7⟩, u8, ⟨u9, u11⟩, u10⟩
      · subst u2
        simp only [Sum.elim_inl] at h
        cases h
        rw [if_pos u1]
        exact zh_ret (Or.inl ⟨rfl, rfl⟩)
      · subst u2
        simp only [Sum.elim_inr] at h
        rw [hkk] at h
        rw [if_neg (by omega)]
        have hop12 : 0 ≤ op ∧ op ≤ 12 := by rw [hop]; unfold zd_op; (repeat' split) <;> omega
        obtain ⟨me, m0⟩ := u5.1
        rw [ze_notes (by omega) (by omega) (by omega) (by omega) (by decide) (by decide), zl_b]
        have hc2 := yk_c_em (kk := kk) (v := 0) u5 (by omega) (by omega) (by decide) (by decide)
        rw [← hop] at hc2
        have v2 := yk_v_up v1 u10
        unfold zf_M_endsPiece
        obtain ⟨y, ey, N', w', c', a1, a2, a3, a4, a5⟩ := yk_ends (T := T) (p := u.2.2.1) (r := r) hl N w o (yp_em kk 0 c2) u.2.1 _ _ zi_fu h ⟨by rw [u3]; exact v2, hc2, fun x hx hh => by
          have := s3 x hx hh
          show x.2 < c2.1 + 1; omega, s4, ⟨u6, u7⟩, by omega, by show c2.1 + 1 + yk_nn w ≤ u.2.2.1; omega, s9⟩ (by omega)
        rw [u4, ey, zl_b, zl_b]
        refine zh_ret (Or.inr ⟨rfl, N', w', c', a1, a2, a3, ?_, a4⟩)
        show y.2.2.1 ≤ 6
        omega
    by_cases h60 : yp_pk T len t.2.2.1 = 60
    · rw [if_pos h60]
      exact step 10 7 (by rw [h60]; rfl) ⟨by decide, by decide⟩ rfl
    rw [if_neg h60, zl_b]
    by_cases h62 : yp_pk T len t.2.2.1 = 62
    · rw [if_pos h62]
      exact step 11 8 (by rw [h62]; rfl) ⟨by decide, by decide⟩ rfl
    rw [if_neg h62, zl_b]
    by_cases h61 : yp_pk T len t.2.2.1 = 61
    · rw [if_pos h61]
      exact step 12 9 (by rw [h61]; rfl) ⟨by decide, by decide⟩ rfl
    rw [if_pos (by unfold yp_cs; rw [if_neg h60, if_neg h62, if_neg h61])] at h
    cases h
    rw [if_neg h61, ze_wrong t6 (by omega) (by decide) (by decide), zl_b]
    exact zh_ret (Or.inl ⟨rfl, rfl⟩)
end ZKD
end
section
/-! The reference's reader of conditions, second half. -/
section ZKD2
variable {T M : Int → Int} {len : Int}
/-- behind a piece: what closes -/
theorem ys_close (hT : yk_T T M) (hl : len ≤ 200) {f num : Int} {W : Int → Int} : ∀ (B N : Nat), N ≤ B → B < 2000 → ∀ (w : zWT) (o p : Int) (c : zCD) (k m : Int) (D : Int → Int) (r : Int ⊕ (Int × zCD)) (n : Nat), yp_C T len N false w o p c = some r → yp_hd w ≠ 10 → yk_cst len w c k p o m W D → o ≤ 6 → N < n →
    zh_ok (zf_M_readsCondition_l1 len f num M W n p o k m D) (fun t => Sum.elim (fun e => ∃ N' w' c', N' ≤ N ∧ yp_C T len N' false w' e.2.1 e.1 c' = some r ∧ yp_hd w' ≠ 10 ∧ yp_pk T len e.1 ≠ 41 ∧ e.2.1 ≤ 6 ∧ yk_cst len w' c' e.2.2.1 e.1 e.2.1 e.2.2.2.1 W e.2.2.2.2) (fun t => t.1 = 1 ∧ ∃ c', r = .inr (t.2.1, c') ∧ yk_c c' t.2.2.2.2.2.1 t.2.2.2.2.2.2.2.2 ∧ (0 ≤ t.2.1 ∧ t.2.1 ≤ len) ∧ c'.1 ≤ t.2.1) t) := by
  intro B
  induction B with
  | zero =>
    intro N hN _ w o p c k m D r n h
    obtain rfl : N = 0 := by omega
    exact zl_ns h
  | succ B ih =>
    intro N hN hB w o p c k m D r n h h10 hs o6 hn
    obtain ⟨N, rfl⟩ : ∃ q, N = q + 1 := by
      cases N with
      | zero => exact zl_ns h
      | succ q => exact ⟨q, rfl⟩
    obtain ⟨n, rfl⟩ : ∃ q, n = q + 1 := ⟨n - 1, by omega⟩
    have fu : 1000000 < zi_fu := by decide
    have hs0 := hs
    obtain ⟨s1, s2, s3, s4, ⟨s5, s6⟩, s7, s8, s9⟩ := hs
    have n1 := yk_nn0 w
    have n2 := yk_no0 w
    have hk := yk_v_le s1
    obtain ⟨me, m0⟩ := s2.1
    show zh_ok (zf_M_readsCondition_l1_b len f num M W (zf_M_readsCondition_l1 len f num M W n) p o k m D) _
    unfold zf_M_readsCondition_l1_b
    rw [ze_here hT s5 (by omega), zl_b]
    by_cases h41 : yp_pk T len p = 41
    · have hp : p < len := yp_pk_lt (T := T) (by omega)
      rw [yp_C_f, if_neg h10, if_pos h41] at h
      rw [if_pos h41]
      unfold zf_M_lands
      obtain ⟨t, et, t1, t2, t3⟩ := yk_lands (Or.inr ⟨rfl, rfl⟩) w c k m D zi_fu s1 (by omega) s2 s3 (by omega) (by omega)
      rw [et, zl_b, zl_b]
      have hbt := yk_bt_la (all := true) w c s9
      obtain ⟨l1, l2, l3, l4⟩ := yp_la_1 (all := true) w c
      have ln : yp_hd (yp_la true w c).1 ≠ 11 ∧ yp_hd (yp_la true w c).1 ≠ 12 := by
        clear h hs0 s1 s2 s3 s4 s8 s9 hk n1 n2 h10 et t1 t2 t3 hbt l1 l2 l3 l4 me m0
        revert c
        induction w with
        | nil => intro c; exact ⟨(show (0 : Int) ≠ 11 by decide), (show (0 : Int) ≠ 12 by decide)⟩
        | cons s w ihw =>
          intro c
          rw [yp_la_c]
          split
          · exact ihw _
          · rename_i q
            exact ⟨fun e => q (Or.inl e), fun e => q (Or.inr ⟨rfl, e⟩)⟩
      generalize yp_la true w c = z at h t1 t2 t3 hbt l1 l2 l3 l4 ln
      obtain ⟨zw, zc⟩ := z
      cases zw with
      | nil => exact hbt.elim
      | cons s w2 =>
        have hk2 := yk_v_le t1
        have hk2 : t.1 = ((w2.length + 1 : Nat) : Int) := hk2
        have l4 : w2.length + 1 ≤ w.length := l4
        have l1 : zc.1 = c.1 := l1
        have l2 : (if s.1 = 10 then 1 else 0) + yk_nn w2 = yk_nn w := l2
        have l3 : (if s.1 = 10 ∨ s.1 = 13 then 1 else 0) + yk_no w2 = yk_no w := l3
        have ln : s.1 ≠ 11 ∧ s.1 ≠ 12 := ln
        have t1' : W (t.1 - 1) = 1048576 * s.1 + s.2 ∧ (10 ≤ s.1 ∧ s.1 ≤ 13) ∧ (0 ≤ s.2 ∧ s.2 < 200) ∧ yk_v w2 W (t.1 - 1) := t1
        obtain ⟨t11, t12, t13, t14⟩ := t1'
        rw [if_pos (by omega)] at l3
        have n3 := yk_no0 w2
        have n4 := yk_nn0 w2
        have l5 : yk_nn w2 ≤ yk_nn w := by
          rw [← l2]
          split <;> omega
        rw [zi_w_id (x := t.1 - 1) (by omega) (by omega), zi_w_id (x := p + 1) (by omega) (by omega), zi_w_id (x := o - 1) (by omega) (by omega)]
        by_cases hw2 : w2 = []
        · have h : some (.inr (p + 1, zc)) = some r := by
            have h : (if w2 = [] then some (.inr (p + 1, zc)) else yp_C T len N false w2 (o - 1) (p + 1) zc) = some r := h
            rwa [if_pos hw2] at h
          cases h
          subst hw2
          have hk2 : t.1 = ((0 + 1 : Nat) : Int) := hk2
          rw [if_pos (by omega)]
          refine zh_ret ⟨rfl, zc, rfl, t2, ⟨?_, ?_⟩, ?_⟩
          · show 0 ≤ p + 1; omega
          · show p + 1 ≤ len; omega
          · show zc.1 ≤ p + 1; omega
        · have h : yp_C T len N false w2 (o - 1) (p + 1) zc = some r := by
            have h : (if w2 = [] then some (.inr (p + 1, zc)) else yp_C T len N false w2 (o - 1) (p + 1) zc) = some r := h
            rwa [if_neg hw2] at h
          have hl2 : w2.length ≠ 0 := fun e => hw2 (List.length_eq_zero_iff.mp e)
          rw [if_neg (by omega)]
          unfold zf_M_endsPiece
          obtain ⟨y, ey, N', w', c', a1, a2, a3, a4, a5⟩ := yk_ends (T := T) (p := p + 1) (r := r) hl N w2 (o - 1) zc (t.1 - 1) m t.2 zi_fu h ⟨t14, t2, fun x hx hh => t3 x (List.mem_cons_of_mem _ hx) hh, by omega, ⟨by omega, by omega⟩, by omega, by omega, by
            rcases hbt with ⟨q, _⟩ | q
            · exact absurd q hw2
            · exact q⟩ (by omega)
          rw [ey, zl_b, zl_b]
          refine zh_mono (ih N' (by omega) (by omega) w' y.2.2.1 (p + 1) c' y.1 y.2.1 y.2.2.2 r n a2 a3 a4 (by omega) (by omega)) fun t ht => ?_
          cases t with
          | inl e =>
            obtain ⟨N2, w3, c3, b1, b2⟩ := ht
            exact ⟨N2, w3, c3, by omega, b2⟩
          | inr e => exact ht
    · rw [if_neg h41]
      exact zh_ret ⟨N + 1, w, c, Nat.le_refl _, h, h10, h41, o6, hs0⟩
end ZKD2
end
section
/-! The reference's reader of conditions, third part. -/
section ZKD3
variable {T M : Int → Int} {len : Int}
theorem ze_jumps {x k m p : Int} {W D : Int → Int} (k1 : 0 ≤ k) (k2 : k < 220) (m1 : 0 ≤ m) (m2 : m < 220) (p1 : 0 ≤ p) (p2 : p ≤ 220) (x1 : 0 ≤ x) (x2 : x ≤ 14) : zf_M_jumps x k m p W D = some (k + 1, m + 1, p + 1, zv_up W k (1048576 * x + m), zv_up D m (1048576 * x + 0)) := by
  unfold zf_M_jumps
  rw [zl_ci k1 (by omega), ze_notes m1 m2 x1 x2 (by decide) (by decide), zl_b, zi_w_id (x := k + 1) (by omega) (by omega), zi_w_id (x := p + 1) (by omega) (by omega), zi_w_id (x := 1048576 * x) (by omega) (by omega), zi_w_id (x := 1048576 * x + m) (by omega) (by omega)]
theorem ys_cond_l (hT : yk_T T M) (hl : len ≤ 200) : ∀ (B N : Nat), N ≤ B → B < 2000 → ∀ (w : zWT) (o p : Int) (c : zCD) (k f m num : Int) (W D : Int → Int) (r : Int ⊕ (Int × zCD)) (n : Nat), yp_C T len N true w o p c = some r → yk_cst len w c k p o m W D → o ≤ 6 → N < n →
    zh_ok (zf_M_readsCondition_l0 len M n p o k f m num W D) (fun t => Sum.elim (fun e => r = .inl (-1000 - e.1) ∧ 0 ≤ e.1 ∧ e.1 ≤ len) (fun t => (t.1 = 0 ∧ r = .inl t.2.2.2.2.1) ∨ (t.1 = 1 ∧ ∃ c', r = .inr (t.2.1, c') ∧ yk_c c' t.2.2.2.2.2.1 t.2.2.2.2.2.2.2.2 ∧ (0 ≤ t.2.1 ∧ t.2.1 ≤ len) ∧ c'.1 ≤ t.2.1)) t) := by
  intro B
  induction B with
  | zero =>
    intro N hN _ w o p c k f m num W D r n h
    obtain rfl : N = 0 := by omega
    exact zl_ns h
  | succ B ih =>
    intro N hN hB w o p c k f m num W D r n h hs o6 hn
    obtain ⟨N, rfl⟩ : ∃ q, N = q + 1 := by
      cases N with
      | zero => exact zl_ns h
      | succ q => exact ⟨q, rfl⟩
    obtain ⟨n, rfl⟩ : ∃ q, n = q + 1 := ⟨n - 1, by omega⟩
    have fu : 1000000 < zi_fu := by decide
    have hs0 := hs
    obtain ⟨s1, s2, s3, s4, ⟨s5, s6⟩, s7, s8, s9⟩ := hs
    have n1 := yk_nn0 w
    have n2 := yk_no0 w
    have hk := yk_v_le s1
    obtain ⟨me, m0⟩ := s2.1
    have opn : ∀ x, (x = 10 ∨ x = 13) → yp_pk T len p ≠ -1 → (if o = 6 then some (.inl (-5000 - p)) else yp_C T len N true ((x, 0) :: w) (o + 1) (p + 1) c) = some r →
        zh_ok ((zf_M_opens x o k p f W).bind fun r11 => (if r11.1 = 0 then (some (.inr (0, r11.2.2.2.1, r11.2.1, r11.2.2.1, r11.2.2.2.2.1, m, num, r11.2.2.2.2.2, D))) else (zf_M_readsCondition_l0 len M n r11.2.2.2.1 r11.2.1 r11.2.2.1 r11.2.2.2.2.1 m num r11.2.2.2.2.2 D)))
        (fun t => Sum.elim (fun e => r = .inl (-1000 - e.1) ∧ 0 ≤ e.1 ∧ e.1 ≤ len) (fun t => (t.1 = 0 ∧ r = .inl t.2.2.2.2.1) ∨ (t.1 = 1 ∧ ∃ c', r = .inr (t.2.1, c') ∧ yk_c c' t.2.2.2.2.2.1 t.2.2.2.2.2.2.2.2 ∧ (0 ≤ t.2.1 ∧ t.2.1 ≤ len) ∧ c'.1 ≤ t.2.1)) t) := by
      intro x hx hp h
      have hp := yp_pk_lt hp
      by_cases ho : o = 6
      · rw [if_pos ho] at h
        cases h
        rw [ze_opens6 ho s5 (by omega), zl_b]
        show zh_ok (if (0 : Int) = 0 then _ else _) _
        rw [if_pos rfl]
        exact zh_ret (Or.inl ⟨rfl, rfl⟩)
      · rw [if_neg ho] at h
        rw [ze_opens ho (by omega) (by omega) s5 (by omega) (by omega) (by omega) (by omega) (by omega), zl_b]
        show zh_ok (if (1 : Int) = 0 then _ else _) _
        rw [if_neg (by decide)]
        refine ih N (by omega) (by omega) ((x, 0) :: w) (o + 1) (p + 1) c (k + 1) f m num (zv_up W k (1048576 * x)) D r n h ⟨⟨?_, ?_, ⟨(show (0 : Int) ≤ 0 by decide), (show (0 : Int) < 200 by decide)⟩, ?_⟩, s2, fun y hy hh => ?_, ?_, ⟨by omega, by omega⟩, by omega, ?_, Or.inr s9⟩ (by omega) (by omega)
        · rw [show k + 1 - 1 = k by omega, zv_up_s]
          show 1048576 * x = 1048576 * x + 0; omega
        · show 10 ≤ x ∧ x ≤ 13; omega
        · rw [show k + 1 - 1 = k by omega]
          exact yk_v_up s1 fun j hj => zv_up_n (by omega)
        · rcases List.mem_cons.mp hy with e | e
          · rw [e] at hh
            have hh : x = 11 ∨ x = 12 := hh
            omega
          · exact s3 y e hh
        · show o + 1 = (if x = 10 ∨ x = 13 then 1 else 0) + yk_no w
          rw [if_pos hx]; omega
        · show c.1 + ((if x = 10 then 1 else 0) + yk_nn w) ≤ p + 1
          split <;> omega
    show zh_ok (zf_M_readsCondition_l0_b len M (zf_M_readsCondition_l0 len M n) p o k f m num W D) _
    unfold zf_M_readsCondition_l0_b
    have hh := ze_here hT s5 (show len ≤ 220 by omega)
    rw [hh, zl_b]
    by_cases h33 : yp_pk T len p = 33
    · rw [if_pos h33, zl_b, if_pos h33]
      rw [yp_C_t, if_pos h33] at h
      exact opn 10 (Or.inl rfl) (by omega) h
    rw [if_neg h33, zl_b]
    by_cases h40 : yp_pk T len p = 40
    · rw [if_pos h40, zl_b, if_neg h33]
      rw [yp_C_t, if_neg h33, if_pos h40] at h
      exact opn 13 (Or.inr rfl) (by omega) h
    rw [if_neg h40]
    refine zh_bind (ys_comp hT hl h h33 h40 hs0 o6 (by omega)) fun t ht => ?_
    rcases ht with ⟨t1, t2⟩ | ⟨t1, N', w', c', a1, a2, a3, a4, a5⟩
    · rw [if_pos t1]
      exact zh_ret (Or.inl ⟨rfl, t2⟩)
    · rw [if_neg (by omega)]
      refine zh_bind (ys_close hT hl B N' (by omega) (by omega) w' _ _ c' _ _ _ r zi_fu a2 a3 a5 a4 (by omega)) fun u hu => ?_
      cases u with
      | inr e =>
        obtain ⟨b1, b2⟩ := hu
        exact zh_ret (Or.inr ⟨b1, b2⟩)
      | inl e =>
        obtain ⟨N2, w2, c2, b1, b2, b3, b4, b5, b6⟩ := hu
        obtain ⟨s1, s2, s3, s4, ⟨s5, s6⟩, s7, s8, s9⟩ := b6
        have n1 := yk_nn0 w2
        have n2 := yk_no0 w2
        have hk := yk_v_le s1
        obtain ⟨me, m0⟩ := s2.1
        obtain ⟨N2, rfl⟩ : ∃ q, N2 = q + 1 := by
          cases N2 with
          | zero => exact zl_ns b2
          | succ q => exact ⟨q, rfl⟩
        rw [yp_C_f, if_neg b3, if_neg b4] at b2
        have hh := ze_here hT s5 (show len ≤ 220 by omega)
        show zh_ok ((zf_M_here e.1 len M).bind _) _
        have go : ∀ all a x kk, ((a = 0 ∧ all = false) ∨ (a = 1 ∧ all = true)) → (x = 11 ∧ yp_pk T len e.1 = 38 ∨ x = 12 ∧ yp_pk T len e.1 ≠ 38) → x = zd_op kk → (kk = 3 ∨ kk = 4) → yp_pk T len e.1 ≠ -1 → yp_C T len N2 true ((x, (yp_la all w2 c2).2.1) :: (yp_la all w2 c2).1) e.2.1 (e.1 + 1) (yp_em kk 0 (yp_la all w2 c2).2) = some r →
            zh_ok ((zf_M_lands a e.2.2.1 e.2.2.2.1 t.2.2.2.2.2.2.2.1 e.2.2.2.2).bind fun r28 => ((some (yp_pk T len e.1)).bind fun r29 => (if r29 = 38 then ((zf_M_jumps 11 r28.1 e.2.2.2.1 e.1 t.2.2.2.2.2.2.2.1 r28.2).bind fun r32 => (zf_M_readsCondition_l0 len M n r32.2.2.1 e.2.1 r32.1 t.2.2.2.2.1 r32.2.1 t.2.2.2.2.2.2.1 r32.2.2.2.1 r32.2.2.2.2)) else ((zf_M_jumps 12 r28.1 e.2.2.2.1 e.1 t.2.2.2.2.2.2.2.1 r28.2).bind fun r31 => (zf_M_readsCondition_l0 len M n r31.2.2.1 e.2.1 r31.1 t.2.2.2.2.1 r31.2.1 t.2.2.2.2.2.2.1 r31.2.2.2.1 r31.2.2.2.2)))))
            (fun t => Sum.elim (fun e => r = .inl (-1000 - e.1) ∧ 0 ≤ e.1 ∧ e.1 ≤ len) (fun t => (t.1 = 0 ∧ r = .inl t.2.2.2.2.1) ∨ (t.1 = 1 ∧ ∃ c', r = .inr (t.2.1, c') ∧ yk_c c' t.2.2.2.2.2.1 t.2.2.2.2.2.2.2.2 ∧ (0 ≤ t.2.1 ∧ t.2.1 ≤ len) ∧ c'.1 ≤ t.2.1)) t) := by
          intro all a x kk ha hx hxk hkk hp h
          have hp := yp_pk_lt hp
          unfold zf_M_lands
          obtain ⟨z, ez, z1, z2, z3⟩ := yk_lands ha w2 c2 e.2.2.1 e.2.2.2.1 e.2.2.2.2 zi_fu s1 (by omega) s2 s3 (by omega) (by omega)
          obtain ⟨l1, l2, l3, l4⟩ := yp_la_1 (all := all) w2 c2
          have hz := yk_v_le z1
          have hbt := yk_bt_la (all := all) w2 c2 s9
          rw [ez, zl_b, zl_b, zl_b]
          have ej : ∀ y, (y = 11 ∨ y = 12) → zf_M_jumps y z.1 e.2.2.2.1 e.1 t.2.2.2.2.2.2.2.1 z.2 = some (z.1 + 1, e.2.2.2.1 + 1, e.1 + 1, zv_up t.2.2.2.2.2.2.2.1 z.1 (1048576 * y + e.2.2.2.1), zv_up z.2 e.2.2.2.1 (1048576 * y + 0)) := fun y hy => ze_jumps (by omega) (by omega) (by omega) (by omega) s5 (by omega) (by omega) (by omega)
          rw [ej 11 (Or.inl rfl), ej 12 (Or.inr rfl), zl_b, zl_b]
          have hx2 : x = 11 ∨ x = 12 := by omega
          have hc2 := yk_c_em (kk := kk) (v := 0) z2 (by omega) (by omega) (by decide) (by decide)
          rw [← hxk] at hc2
          have gox : zh_ok (zf_M_readsCondition_l0 len M n (e.1 + 1) e.2.1 (z.1 + 1) t.2.2.2.2.1 (e.2.2.2.1 + 1) t.2.2.2.2.2.2.1 (zv_up t.2.2.2.2.2.2.2.1 z.1 (1048576 * x + e.2.2.2.1)) (zv_up z.2 e.2.2.2.1 (1048576 * x + 0))) (fun t => Sum.elim (fun e => r = .inl (-1000 - e.1) ∧ 0 ≤ e.1 ∧ e.1 ≤ len) (fun t => (t.1 = 0 ∧ r = .inl t.2.2.2.2.1) ∨ (t.1 = 1 ∧ ∃ c', r = .inr (t.2.1, c') ∧ yk_c c' t.2.2.2.2.2.1 t.2.2.2.2.2.2.2.2 ∧ (0 ≤ t.2.1 ∧ t.2.1 ≤ len) ∧ c'.1 ≤ t.2.1)) t) := by
           refine ih N2 (by omega) (by omega) _ e.2.1 (e.1 + 1) _ (z.1 + 1) t.2.2.2.2.1 (e.2.2.2.1 + 1) t.2.2.2.2.2.2.1 (zv_up t.2.2.2.2.2.2.2.1 z.1 (1048576 * x + e.2.2.2.1)) (zv_up z.2 e.2.2.2.1 (1048576 * x + 0)) r n h ⟨⟨?_, ?_, ⟨?_, ?_⟩, ?_⟩, hc2, fun y hy hh => ?_, ?_, ⟨by omega, by omega⟩, by omega, ?_, Or.inr hbt⟩ b5 (by omega)
           · rw [show z.1 + 1 - 1 = z.1 by omega, zv_up_s]
             show _ = 1048576 * x + (yp_la all w2 c2).2.1
             rw [l1]; omega
           · show 10 ≤ x ∧ x ≤ 13; omega
           · show 0 ≤ (yp_la all w2 c2).2.1; omega
           · show (yp_la all w2 c2).2.1 < 200; omega
           · rw [show z.1 + 1 - 1 = z.1 by omega]
             exact yk_v_up z1 fun j hj => zv_up_n (by omega)
           · rcases List.mem_cons.mp hy with q | q
             · rw [q]
               show (yp_la all w2 c2).2.1 < (yp_la all w2 c2).2.1 + 1; omega
             · have := z3 y q hh
               show y.2 < (yp_la all w2 c2).2.1 + 1; omega
           · show e.2.1 = (if x = 10 ∨ x = 13 then 1 else 0) + yk_no (yp_la all w2 c2).1
             rw [if_neg (by omega), l3]; omega
           · show (yp_la all w2 c2).2.1 + 1 + ((if x = 10 then 1 else 0) + yk_nn (yp_la all w2 c2).1) ≤ e.1 + 1
             rw [if_neg (by omega), l2, l1]; omega
          rcases hx with ⟨e1, e2⟩ | ⟨e1, e2⟩
          · rw [if_pos e2]
            rw [e1] at gox
            exact gox
          · rw [if_neg e2]
            rw [e1] at gox
            exact gox
        rw [hh, zl_b]
        by_cases h38 : yp_pk T len e.1 = 38
        · rw [if_pos h38] at b2
          rw [if_pos h38, zl_b, if_neg (by omega)]
          exact go false 0 11 4 (Or.inl ⟨rfl, rfl⟩) (Or.inl ⟨rfl, h38⟩) rfl (Or.inr rfl) (by omega) b2
        rw [if_neg h38] at b2
        rw [if_neg h38, zl_b]
        by_cases h124 : yp_pk T len e.1 = 124
        · rw [if_pos h124] at b2
          rw [if_pos h124, zl_b, if_pos h124]
          exact go true 1 12 3 (Or.inr ⟨rfl, rfl⟩) (Or.inr ⟨rfl, h38⟩) rfl (Or.inl rfl) (by omega) b2
        rw [if_neg h124] at b2
        rw [if_neg h124]
        cases b2
        exact zh_ret ⟨rfl, s5, s6⟩
/-- the whole C, its ( and ) as well -/
theorem ys_cond (hT : yk_T T M) (hl : len ≤ 200) {N : Nat} {p : Int} {c : zCD} {f m num : Int} {o k : Int} {W D : Int → Int} {r : Int ⊕ (Int × zCD)} (h40 : yp_pk T len p = 40) (h : yp_C T len N true [(13, 0)] 1 (p + 1) c = some r) (hN : N < 2000) (hc : yk_c c m D) (p1 : 0 ≤ p) (cp : c.1 ≤ p) :
    zh_ok (zf_M_readsCondition p len o k f m num M W D) (fun t => (t.1 = 0 ∧ r = .inl t.2.2.2.2.1) ∨ (t.1 = 1 ∧ ∃ c', r = .inr (t.2.1, c') ∧ yk_c c' t.2.2.2.2.2.1 t.2.2.2.2.2.2.2.2 ∧ (0 ≤ t.2.1 ∧ t.2.1 ≤ len) ∧ c'.1 ≤ t.2.1)) := by
  have fu : 1000000 < zi_fu := by decide
  have hp : p < len := yp_pk_lt (T := T) (by omega)
  unfold zf_M_readsCondition
  rw [ze_here hT p1 (by omega), zl_b, if_pos h40, ze_opens (by decide) (by decide) (by decide) p1 (by omega) (by decide) (by decide) (by decide) (by decide), zl_b]
  show zh_ok (if (1 : Int) = 0 then _ else _) _
  rw [if_neg (by decide)]
  refine zh_bind (ys_cond_l hT hl 1999 N (by omega) (by decide) [(13, 0)] 1 (p + 1) c 1 f m num (zv_up W 0 (1048576 * 13)) D r zi_fu h ⟨⟨?_, ⟨by decide, by decide⟩, ⟨by decide, by decide⟩, rfl⟩, hc, fun y hy hh => ?_, rfl, ⟨by omega, by omega⟩, by omega, ?_, Or.inl ⟨rfl, rfl⟩⟩ (by decide) (by omega)) fun t ht => ?_
  · exact zv_up_s
  · rcases List.mem_cons.mp hy with e | e
    · subst e
      have hh : (13 : Int) = 11 ∨ (13 : Int) = 12 := hh
      omega
    · cases e
  · show c.1 + ((if (13 : Int) = 10 then 1 else 0) + 0) ≤ p + 1
    rw [if_neg (by decide)]; omega
  · cases t with
    | inr e => exact zh_ret ht
    | inl e =>
      obtain ⟨a1, a2, a3⟩ := ht
      simp only [Sum.elim_inl]
      rw [ze_wrong a2 (by omega) (by decide) (by decide), zl_b]
      exact zh_ret (Or.inl ⟨rfl, a1⟩)
theorem ys_condN (hT : yk_T T M) (hl : len ≤ 200) {p : Int} {f m num : Int} {o k : Int} {W D : Int → Int} (h40 : yp_pk T len p ≠ 40) (p1 : 0 ≤ p) (p2 : p ≤ len) : zf_M_readsCondition p len o k f m num M W D = some (0, p, o, k, -1000 - p, m, num, W, D) := by
  unfold zf_M_readsCondition
  rw [ze_here hT p1 (by omega), zl_b, if_neg h40, ze_wrong p1 (by omega) (by decide) (by decide), zl_b]
  rfl
end ZKD3
end
section
/-! A law as it is read: its clauses on both sides. -/
def yl_kind (k : Int) : Prop := k = 118 ∨ k = 106 ∨ k = 119 ∨ k = 103 ∨ k = 113
def yl_am (k : Int) : Prop := k = 119 ∨ k = 103 ∨ k = 113
/-- how many clauses, their kinds, what their C's and their E's come to -/
abbrev zLW : Type := Int × (Int → Int) × (Int → (Int → Int) → Option Int) × (Int → (Int → Int) → Option Int)
def yl_cl (K V : Int → Int) (st : Int) (L : zLW) (fr hf to : Int → Int) : Prop := ∀ q, 0 ≤ q → q < L.1 → yl_kind (L.2.1 q) ∧ (0 ≤ fr q ∧ fr q ≤ hf q ∧ hf q < to q ∧ to q ≤ st) ∧ zd_seg true K V (hf q) (to q) 16 (L.2.2.1 q) ∧ (yl_am (L.2.1 q) → zd_seg false K V (fr q) (hf q) 16 (L.2.2.2 q))
def yl_tell (L : zLW) (k t : Int) : Prop := (t = 1 ∧ ∃ q, 0 ≤ q ∧ q < L.1 ∧ L.2.1 q = k) ∨ (t = 0 ∧ ∀ q, 0 ≤ q → q < L.1 → L.2.1 q ≠ k)
def yl_byp (K V : Int → Int) (L : zLW) (hf to : Int → Int) (k s x : Int) : Prop := s = 0 → ∀ q, 0 ≤ q → q < L.1 → L.2.1 q = k → ∀ j, hf q ≤ j → j < to q → K j = 1 → V j ≠ x
def yl_fl (K V : Int → Int) (L : zLW) (hf to : Int → Int) (tS tL sP lP : Int) : Prop :=
  (yl_tell L 118 tS ∧ yl_tell L 106 tL) ∧ (yl_byp K V L hf to 118 sP 10 ∧ yl_byp K V L hf to 118 sP 11 ∧ yl_byp K V L hf to 118 sP 12) ∧ yl_byp K V L hf to 106 lP 10 ∧ yl_byp K V L hf to 106 lP 11
/-- one clause more -/
def yl_add (L : zLW) (k : Int) (ρC ρE : (Int → Int) → Option Int) : zLW := (L.1 + 1, zv_up L.2.1 L.1 k, (fun q => if q = L.1 then ρC else L.2.2.1 q), (fun q => if q = L.1 then ρE else L.2.2.2 q))
theorem yl_cl_add {K V K2 V2 : Int → Int} {st st2 k f h : Int} {L : zLW} {fr hf to : Int → Int} {ρC ρE : (Int → Int) → Option Int} (hc : yl_cl K V st L fr hf to) (hK : ∀ j, j < st → K2 j = K j ∧ V2 j = V j) (hk : yl_kind k) (h1 : st ≤ f) (h2 : f ≤ h) (h3 : h < st2) (h0 : 0 ≤ f) (hC : zd_seg true K2 V2 h st2 16 ρC) (hE : yl_am k → zd_seg false K2 V2 f h 16 ρE) : yl_cl K2 V2 st2 (yl_add L k ρC ρE) (zv_up fr L.1 f) (zv_up hf L.1 h) (zv_up to L.1 st2) := by
  intro q q1 q2
  have q2 : q < L.1 + 1 := q2
  show yl_kind (zv_up L.2.1 L.1 k q) ∧ (0 ≤ zv_up fr L.1 f q ∧ zv_up fr L.1 f q ≤ zv_up hf L.1 h q ∧ zv_up hf L.1 h q < zv_up to L.1 st2 q ∧ zv_up to L.1 st2 q ≤ st2) ∧ zd_seg true K2 V2 (zv_up hf L.1 h q) (zv_up to L.1 st2 q) 16 (if q = L.1 then ρC else L.2.2.1 q) ∧ (yl_am (zv_up L.2.1 L.1 k q) → zd_seg false K2 V2 (zv_up fr L.1 f q) (zv_up hf L.1 h q) 16 (if q = L.1 then ρE else L.2.2.2 q))
  by_cases e : q = L.1
  · subst e
    rw [zv_up_s, zv_up_s, zv_up_s, zv_up_s, if_pos rfl, if_pos rfl]
    exact ⟨hk, ⟨h0, h2, h3, Int.le_refl _⟩, hC, hE⟩
  · rw [zv_up_n e, zv_up_n e, zv_up_n e, zv_up_n e, if_neg e, if_neg e]
    obtain ⟨a1, ⟨a2, a3, a4, a5⟩, a6, a7⟩ := hc q q1 (by omega)
    exact ⟨a1, ⟨a2, a3, a4, by omega⟩, zd_seg_fr a6 fun j _ j2 => hK j (by omega), fun h => zd_seg_fr (a7 h) fun j _ j2 => hK j (by omega)⟩
theorem yl_tell_add {L : zLW} {k k2 t : Int} {ρC ρE : (Int → Int) → Option Int} (h0 : 0 ≤ L.1) (h : yl_tell L k t) : yl_tell (yl_add L k2 ρC ρE) k (if k2 = k then 1 else t) := by
  by_cases e : k2 = k
  · rw [if_pos e]
    exact Or.inl ⟨rfl, L.1, h0, by show L.1 < L.1 + 1; omega, by show zv_up L.2.1 L.1 k2 L.1 = k; rw [zv_up_s]; exact e⟩
  · rw [if_neg e]
    rcases h with ⟨a, q, q1, q2, q3⟩ | ⟨a, b⟩
    · exact Or.inl ⟨a, q, q1, by show q < L.1 + 1; omega, by show zv_up L.2.1 L.1 k2 q = k; rw [zv_up_n (by omega)]; exact q3⟩
    · refine Or.inr ⟨a, fun q q1 q2 => ?_⟩
      have q2 : q < L.1 + 1 := q2
      show zv_up L.2.1 L.1 k2 q ≠ k
      by_cases eq : q = L.1
      · rw [eq, zv_up_s]; exact e
      · rw [zv_up_n eq]; exact b q q1 (by omega)
theorem yl_byp_add {K V K2 V2 : Int → Int} {L : zLW} {hf to : Int → Int} {k k2 s s2 x h st st2 : Int} {ρC ρE : (Int → Int) → Option Int} (hb : yl_byp K V L hf to k s x) (hs : s2 = 0 → s = 0 ∧ (k2 = k → ∀ j, h ≤ j → j < st2 → K2 j = 1 → V2 j ≠ x)) (hK : ∀ j, j < st → K2 j = K j ∧ V2 j = V j) (hto : ∀ q, 0 ≤ q → q < L.1 → to q ≤ st) : yl_byp K2 V2 (yl_add L k2 ρC ρE) (zv_up hf L.1 h) (zv_up to L.1 st2) k s2 x := by
  intro e q q1 q2 q3 j j1 j2 j3
  have q2 : q < L.1 + 1 := q2
  have q3 : zv_up L.2.1 L.1 k2 q = k := q3
  obtain ⟨s0, sn⟩ := hs e
  by_cases eq : q = L.1
  · subst eq
    rw [zv_up_s] at q3 j1 j2
    exact sn q3 j j1 j2 j3
  · rw [zv_up_n eq] at q3 j1 j2
    have ht := hto q q1 (by omega)
    obtain ⟨u1, u2⟩ := hK j (by omega)
    rw [u2]
    exact hb s0 q q1 (by omega) q3 j j1 j2 (by rw [← u1]; exact j3)
/-! The class's side. -/
section ZLX
variable {K V T : Int → Int} {len : Int}
theorem ze_hasLetter_l0 {x st : Int} (hst : st ≤ 200) : ∀ (m : Nat) (j : Int) (n : Nat), st - j ≤ m → 0 ≤ j → m < n → (zf_Law_hasLetter_l0 x st K V n j = some (.inl ()) ∧ ∀ i, j ≤ i → i < st → K i = 1 → V i ≠ x) ∨ zf_Law_hasLetter_l0 x st K V n j = some (.inr 1) := by
  intro m
  induction m with
  | zero =>
    intro j n e j0 hn
    obtain ⟨n, rfl⟩ : ∃ q, n = q + 1 := ⟨n - 1, by omega⟩
    refine Or.inl ⟨?_, fun i a b => by omega⟩
    show zf_Law_hasLetter_l0_b x st K V (zf_Law_hasLetter_l0 x st K V n) j = _
    unfold zf_Law_hasLetter_l0_b
    rw [if_neg (by omega)]
  | succ m ih =>
    intro j n e j0 hn
    obtain ⟨n, rfl⟩ : ∃ q, n = q + 1 := ⟨n - 1, by omega⟩
    show (zf_Law_hasLetter_l0_b x st K V (zf_Law_hasLetter_l0 x st K V n) j = _ ∧ _) ∨ zf_Law_hasLetter_l0_b x st K V (zf_Law_hasLetter_l0 x st K V n) j = _
    unfold zf_Law_hasLetter_l0_b
    by_cases hj : j < st
    · rw [if_pos hj, zl_ci j0 (by omega), zi_w_id (x := j + 1) (by omega) (by omega)]
      have i2 := ih (j + 1) n (by omega) (by omega) (by omega)
      have ext : (K j = 1 → V j ≠ x) → (∀ i, j + 1 ≤ i → i < st → K i = 1 → V i ≠ x) → ∀ i, j ≤ i → i < st → K i = 1 → V i ≠ x := fun a b i i1 i2 i3 => by
        by_cases e : i = j
        · subst e; exact a i3
        · exact b i (by omega) i2 i3
      by_cases h1 : K j = 1
      · rw [if_pos h1]
        by_cases h2 : V j = x
        · rw [if_pos h2]; exact Or.inr rfl
        · rw [if_neg h2]
          rcases i2 with ⟨a, b⟩ | a
          · exact Or.inl ⟨a, ext (fun _ => h2) b⟩
          · exact Or.inr a
      · rw [if_neg h1]
        rcases i2 with ⟨a, b⟩ | a
        · exact Or.inl ⟨a, ext (fun h => absurd h h1) b⟩
        · exact Or.inr a
    · rw [if_neg hj]
      exact Or.inl ⟨rfl, fun i a b => by omega⟩
theorem ze_hasLetter {x st j : Int} (hst : st ≤ 200) (j0 : 0 ≤ j) : (zf_Law_hasLetter j x st K V = some 0 ∧ ∀ i, j ≤ i → i < st → K i = 1 → V i ≠ x) ∨ zf_Law_hasLetter j x st K V = some 1 := by
  unfold zf_Law_hasLetter
  rcases ze_hasLetter_l0 (K := K) (V := V) (x := x) hst (st - j).toNat j zi_fu (by omega) j0 (by have : 1000 < zi_fu := (by decide); omega) with ⟨a, b⟩ | a
  · rw [a]; exact Or.inl ⟨rfl, b⟩
  · rw [a]; exact Or.inr rfl
/-- what a clause leaves of the four marks -/
def yl_mk (K V : Int → Int) (k h st tL lP tS sP tL' lP' tS' sP' : Int) : Prop :=
  (tS' = (if k = 118 then 1 else tS) ∧ tL' = if k = 106 then 1 else tL) ∧ (sP' = 0 → sP = 0 ∧ (k = 118 → ∀ j, h ≤ j → j < st → K j = 1 → V j ≠ 10 ∧ V j ≠ 11 ∧ V j ≠ 12)) ∧ (lP' = 0 → lP = 0 ∧ (k = 106 → ∀ j, h ≤ j → j < st → K j = 1 → V j ≠ 10 ∧ V j ≠ 11))
theorem ze_addClause {k f h nc st tL lP tS sP : Int} {g0 g1 g2 g3 : Int → Int} (n1 : 0 ≤ nc) (n2 : nc < 14) (h0 : 0 ≤ h) (hst : st ≤ 200) : ∃ tL' lP' tS' sP', zf_Law_addClause k f h nc st tL lP tS sP g0 g1 g2 g3 K V = some (nc + 1, tL', lP', tS', sP', zv_up g0 nc k, zv_up g1 nc f, zv_up g2 nc h, zv_up g3 nc st) ∧ yl_mk K V k h st tL lP tS sP tL' lP' tS' sP' := by
  have a10 := ze_hasLetter (K := K) (V := V) (x := 10) (st := st) (j := h) hst h0
  have a11 := ze_hasLetter (K := K) (V := V) (x := 11) (st := st) (j := h) hst h0
  have a12 := ze_hasLetter (K := K) (V := V) (x := 12) (st := st) (j := h) hst h0
  unfold zf_Law_addClause yl_mk
  rw [if_pos n2, zl_ci n1 (by omega), zi_w_id (x := nc + 1) (by omega) (by omega)]
  by_cases h118 : k = 118
  · subst h118
    rw [if_pos rfl]
    have no : ¬ (118 : Int) = 106 := by decide
    by_cases hs : sP = 0
    · rw [if_pos hs]
      rcases a10 with ⟨e10, b10⟩ | e10
      · rw [e10, zl_b, if_pos rfl]
        rcases a11 with ⟨e11, b11⟩ | e11
        · rw [e11, zl_b, if_pos rfl]
          rcases a12 with ⟨e12, b12⟩ | e12
          · rw [e12, zl_b, if_pos rfl]
            exact ⟨tL, lP, 1, 0, rfl, ⟨by rw [if_pos rfl], by rw [if_neg no]⟩, fun _ => ⟨hs, fun _ j j1 j2 j3 => ⟨b10 j j1 j2 j3, b11 j j1 j2 j3, b12 j j1 j2 j3⟩⟩, fun e => ⟨e, fun h => absurd h no⟩⟩
          · rw [e12, zl_b, if_neg (by decide)]
            exact ⟨tL, lP, 1, 1, rfl, ⟨by rw [if_pos rfl], by rw [if_neg no]⟩, fun e => absurd e (by decide), fun e => ⟨e, fun h => absurd h no⟩⟩
        · rw [e11, zl_b, if_neg (by decide)]
          exact ⟨tL, lP, 1, 1, rfl, ⟨by rw [if_pos rfl], by rw [if_neg no]⟩, fun e => absurd e (by decide), fun e => ⟨e, fun h => absurd h no⟩⟩
      · rw [e10, zl_b, if_neg (by decide)]
        exact ⟨tL, lP, 1, 1, rfl, ⟨by rw [if_pos rfl], by rw [if_neg no]⟩, fun e => absurd e (by decide), fun e => ⟨e, fun h => absurd h no⟩⟩
    · rw [if_neg hs]
      exact ⟨tL, lP, 1, 1, rfl, ⟨by rw [if_pos rfl], by rw [if_neg no]⟩, fun e => absurd e (by decide), fun e => ⟨e, fun h => absurd h no⟩⟩
  · rw [if_neg h118]
    by_cases h106 : k = 106
    · subst h106
      rw [if_pos rfl]
      by_cases hs : lP = 0
      · rw [if_pos hs]
        rcases a10 with ⟨e10, b10⟩ | e10
        · rw [e10, zl_b, if_pos rfl]
          rcases a11 with ⟨e11, b11⟩ | e11
          · rw [e11, zl_b, if_pos rfl]
            exact ⟨1, 0, tS, sP, rfl, ⟨by rw [if_neg h118], by rw [if_pos rfl]⟩, fun e => ⟨e, fun h => absurd h h118⟩, fun _ => ⟨hs, fun _ j j1 j2 j3 => ⟨b10 j j1 j2 j3, b11 j j1 j2 j3⟩⟩⟩
          · rw [e11, zl_b, if_neg (by decide)]
            exact ⟨1, 1, tS, sP, rfl, ⟨by rw [if_neg h118], by rw [if_pos rfl]⟩, fun e => ⟨e, fun h => absurd h h118⟩, fun e => absurd e (by decide)⟩
        · rw [e10, zl_b, if_neg (by decide)]
          exact ⟨1, 1, tS, sP, rfl, ⟨by rw [if_neg h118], by rw [if_pos rfl]⟩, fun e => ⟨e, fun h => absurd h h118⟩, fun e => absurd e (by decide)⟩
      · rw [if_neg hs]
        exact ⟨1, 1, tS, sP, rfl, ⟨by rw [if_neg h118], by rw [if_pos rfl]⟩, fun e => ⟨e, fun h => absurd h h118⟩, fun e => absurd e (by decide)⟩
    · rw [if_neg h106]
      exact ⟨tL, lP, tS, sP, rfl, ⟨by rw [if_neg h118], by rw [if_neg h106]⟩, fun e => ⟨e, fun h => absurd h h118⟩, fun e => ⟨e, fun h => absurd h h106⟩⟩
theorem ze_addClause_a {k f h nc st tL lP tS sP : Int} {g0 g1 g2 g3 : Int → Int} (n1 : 0 ≤ nc) (n2 : nc ≤ 14) (h0 : 0 ≤ h) (hst : st ≤ 200) : ∃ o, zf_Law_addClause k f h nc st tL lP tS sP g0 g1 g2 g3 K V = some o := by
  by_cases hn : nc < 14
  · obtain ⟨_, _, _, _, e, _⟩ := ze_addClause (K := K) (V := V) (k := k) (f := f) (tL := tL) (lP := lP) (tS := tS) (sP := sP) (g0 := g0) (g1 := g1) (g2 := g2) (g3 := g3) n1 hn h0 hst
    exact ⟨_, e⟩
  · unfold zf_Law_addClause
    rw [if_neg hn]
    exact ⟨_, rfl⟩
/-! a fault is there already -/
theorem yr_partf {rc : zRC} {o f p c : Int} (hf : f ≠ 0) (hr : rc 2 o f p len c T K V = some (f, p, c, K, V)) : zm_LawReader_readPart rc o f p len c T K V = some (f, p, c, K, V) := by
  unfold zm_LawReader_readPart
  rw [hr, zl_b, show zi_fu = (zi_fu - 1) + 1 from by decide, yr_part_f hf, zl_b]
theorem yr_condf {rc : zRC} {o f p c : Int} (hf : f ≠ 0) (hr : rc 1 o f p len c T K V = some (f, p, c, K, V)) : zm_LawReader_readCondition rc o f p len c T K V = some (f, p, c, K, V) := by
  unfold zm_LawReader_readCondition
  rw [hr, zl_b, show zi_fu = (zi_fu - 1) + 1 from by decide, yr_cond_f hf, zl_b]
theorem yr_readCondf {f p c : Int} (hf : f ≠ 0) (p1 : 0 ≤ p) (hl : len ≤ 220) : zf_LawReader_readCondition 1 f p len c T K V = some (f, p, c, K, V) := by
  refine yr_condf (rc := zg_LawReader_readCondition 39) hf ?_
  refine yr_partf (rc := zg_LawReader_readCondition 38) hf ?_
  show zm_LawReader_readPiece (zg_LawReader_readCondition 37) 1 f p len c T K V = _
  unfold zm_LawReader_readPiece
  rw [ze_peek p1 hl, zl_b, if_neg hf]
end ZLX
end
section
/-! A clause, read by the class, and by the reference, as one text says. -/
def yp_CT (T : Int → Int) (len k p : Int) (c : zCD) : Option (Int ⊕ (Int × zCD × Int × Int)) := if yp_pk T len p = 40 then (yp_C T len 1000 true [(13, 0)] 1 (p + 1) c).bind fun r => Sum.elim (fun f => some (.inl f)) (fun q => some (.inr (q.1, q.2, k, c.1))) r else some (.inl (-1000 - p))
def yp_kd (k : Int) : Bool := decide (k = 118 ∨ k = 106 ∨ k = 119 ∨ k = 103 ∨ k = 113)
def yp_ka (k : Int) : Bool := decide (k = 119 ∨ k = 103 ∨ k = 113)
def yp_CL (T : Int → Int) (len nc p : Int) (c : zCD) : Option (Int ⊕ (Int × zCD × Int × Int)) :=
  if yp_kd (yp_pk T len p) = true then (if nc = 14 then some (.inl (-4000 - p)) else if yp_ka (yp_pk T len p) = true then (yp_S T len 1000 true [] 0 (p + 1) c).bind fun r => Sum.elim (fun f => some (.inl f)) (fun q => yp_CT T len (yp_pk T len p) q.1 q.2) r else yp_CT T len (yp_pk T len p) (p + 1) c)
  else some (.inl (-1000 - p))
abbrev zXO : Type := Int × Int × Int × Int × Int × Int × Int × Int × (Int → Int) × (Int → Int) × (Int → Int) × (Int → Int) × (Int → Int) × (Int → Int)
/-- what the class leaves of a clause that is read well -/
def yx_ok (p0 : Int) (c0 : zCD) (nc k f : Int) (ρE : Option ((Int → Int) → Option Int)) (tL lP tS sP : Int) (kd fr hf to : Int → Int) (len p h : Int) (c : zCD) (o : zXO) : Prop :=
  (o.2.1 = p ∧ p0 < p ∧ p ≤ len) ∧ o.2.2.1 = nc + 1 ∧ (o.2.2.2.1 = c.1 ∧ o.2.2.2.2.2.2.2.2.1 = c.2.1 ∧ o.2.2.2.2.2.2.2.2.2.1 = c.2.2) ∧ (c0.1 ≤ h ∧ h < c.1 ∧ c.1 - c0.1 ≤ p - p0 ∧ ∀ j, j < c0.1 → c.2.1 j = c0.2.1 j ∧ c.2.2 j = c0.2.2 j) ∧
  (o.2.2.2.2.2.2.2.2.2.2.1 = zv_up kd nc k ∧ o.2.2.2.2.2.2.2.2.2.2.2.1 = zv_up fr nc f ∧ o.2.2.2.2.2.2.2.2.2.2.2.2.1 = zv_up hf nc h ∧ o.2.2.2.2.2.2.2.2.2.2.2.2.2 = zv_up to nc c.1) ∧
  yl_mk c.2.1 c.2.2 k h c.1 tL lP tS sP o.2.2.2.2.1 o.2.2.2.2.2.1 o.2.2.2.2.2.2.1 o.2.2.2.2.2.2.2.1 ∧ (∃ ρC, zd_seg true c.2.1 c.2.2 h c.1 16 ρC) ∧ (match ρE with | none => True | some ρ => zd_seg false c.2.1 c.2.2 f h 16 ρ)
section YXC
variable {T : Int → Int} {len : Int}
theorem yx_tail (hl : len ≤ 200) (hT : ∀ j, 0 ≤ j → j < 220 → 0 ≤ T j ∧ T j ≤ 255) {p0 : Int} {c0 : zCD} {nc k f1 tL lP tS sP p f : Int} {kd fr hf to : Int → Int} {c : zCD} {ρE : Option ((Int → Int) → Option Int)} (n1 : 0 ≤ nc) (n2 : nc < 14) (hp : p0 ≤ p) (p0' : 0 ≤ p0) (p2 : p ≤ len) (c00 : 0 ≤ c0.1) (c2 : f = 0 → c0.1 ≤ c.1 ∧ c.1 - c0.1 ≤ p - p0 ∧ c.1 ≤ p ∧ f1 ≤ c.1) (c1 : 0 ≤ c.1 ∧ c.1 ≤ 200)
    (hk : f = 0 → ∀ j, j < c0.1 → c.2.1 j = c0.2.1 j ∧ c.2.2 j = c0.2.2 j) (hE : f = 0 → match ρE with | none => True | some ρ => zd_seg false c.2.1 c.2.2 f1 c.1 16 ρ) :
    zh_ok ((zf_LawReader_skip 40 f p len T).bind fun r8 => ((zf_LawReader_readCondition 1 r8.1 r8.2 len c.1 T c.2.1 c.2.2).bind fun r9 => ((zf_LawReader_skip 41 r9.1 r9.2.1 len T).bind fun r10 => ((zf_Law_addClause k f1 c.1 nc r9.2.2.1 tL lP tS sP kd fr hf to r9.2.2.2.1 r9.2.2.2.2).bind fun r11 => (some (r10.1, r10.2, r11.1, r9.2.2.1, r11.2.1, r11.2.2.1, r11.2.2.2.1, r11.2.2.2.2.1, r9.2.2.2.1, r9.2.2.2.2, r11.2.2.2.2.2.1, r11.2.2.2.2.2.2.1, r11.2.2.2.2.2.2.2.1, r11.2.2.2.2.2.2.2.2))))))
      (fun o : zXO => (o.1 ≠ 0 ∧ ((f = 0 ∧ yp_CT T len k p c = some (.inl o.1)) ∨ (f ≠ 0 ∧ o.1 = f))) ∨ (o.1 = 0 ∧ f = 0 ∧ ∃ p' c', yp_CT T len k p c = some (.inr (p', c', k, c.1)) ∧ yx_ok p0 c0 nc k f1 ρE tL lP tS sP kd fr hf to len p' c.1 c' o)) := by
  by_cases hf0 : f = 0
  · obtain ⟨d2, d3, d4, d5⟩ := c2 hf0
    have hk2 := hk hf0
    have hE2 := hE hf0
    clear c2 hk hE
    subst hf0
    rw [ze_skip (by omega) (by omega) (by omega), zl_b]
    by_cases h40 : yp_pk T len p = 40
    · have hpl : p < len := yp_pk_lt (T := T) (by omega)
      rw [if_pos h40]
      refine zh_bind (yr_readCondition hl hT (p + 1) c (by omega) (by omega) c1.1 (by omega)) fun r hr => ?_
      obtain ⟨⟨r1, r2⟩, ⟨r3, r4⟩, ro, rb⟩ := hr
      by_cases he : r.1 = 0
      · obtain ⟨b1, b2, b3, b4, ⟨ρ, b5⟩, b6, b7⟩ := ro he
        obtain ⟨kk, l, u⟩ := b7 [(13, 0)] rfl
        have b6 : yp_pk T len r.2.1 ≠ 38 ∧ yp_pk T len r.2.1 ≠ 124 := b6
        have hu := u (1000 - kk)
        rw [show 1000 - kk + kk = 1000 by omega, show 1000 - kk = (999 - kk) + 1 by omega, yp_C_f, if_neg (show ¬ yp_hd [(13, 0)] = 10 from (by decide))] at hu
        rw [he, ze_skip r1 (by omega) (by omega), zl_b]
        by_cases h41 : yp_pk T len r.2.1 = 41
        · have hp3 : r.2.1 < len := yp_pk_lt (T := T) (by omega)
          rw [if_pos h41] at hu ⊢
          obtain ⟨tL', lP', tS', sP', ea, em⟩ := ze_addClause (K := r.2.2.2.1) (V := r.2.2.2.2) (k := k) (f := f1) (h := c.1) (st := r.2.2.1) (tL := tL) (lP := lP) (tS := tS) (sP := sP) (g0 := kd) (g1 := fr) (g2 := hf) (g3 := to) n1 n2 c1.1 r4
          rw [ea, zl_b]
          refine zh_ret (Or.inr ⟨rfl, rfl, r.2.1 + 1, r.2.2, ?_, ⟨rfl, by omega, by omega⟩, rfl, ⟨rfl, rfl, rfl⟩, ⟨d2, b2, by omega, fun j hj => ⟨(b4 j (by omega)).1.trans (hk2 j hj).1, (b4 j (by omega)).2.trans (hk2 j hj).2⟩⟩, ⟨rfl, rfl, rfl, rfl⟩, em, ⟨ρ, b5⟩, ?_⟩)
          · unfold yp_CT
            rw [if_pos h40, hu, yp_la_n (w := [(13, 0)]) ⟨(by decide), fun _ => (by decide)⟩]
            rfl
          · cases ρE with
            | none => trivial
            | some ρ' => exact zd_seg_fr hE2 fun j _ j2 => b4 j j2
        · rw [if_neg h41] at hu ⊢
          rw [if_neg b6.1, if_neg b6.2] at hu
          obtain ⟨o, eo⟩ := ze_addClause_a (K := r.2.2.2.1) (V := r.2.2.2.2) (k := k) (f := f1) (h := c.1) (nc := nc) (st := r.2.2.1) (tL := tL) (lP := lP) (tS := tS) (sP := sP) (g0 := kd) (g1 := fr) (g2 := hf) (g3 := to) n1 (by omega) c1.1 r4
          rw [eo, zl_b]
          refine zh_ret (Or.inl ⟨fun h => ?_, Or.inl ⟨rfl, ?_⟩⟩)
          · have h : -1000 - r.2.1 = 0 := h
            omega
          · unfold yp_CT
            rw [if_pos h40, hu]
            rfl
      · rw [ze_skipf he, zl_b]
        obtain ⟨kk, l, u⟩ := rb he [(13, 0)] rfl
        have hu := u (999 - kk)
        rw [show 999 - kk + kk + 1 = 1000 by omega] at hu
        obtain ⟨o, eo⟩ := ze_addClause_a (K := r.2.2.2.1) (V := r.2.2.2.2) (k := k) (f := f1) (h := c.1) (nc := nc) (st := r.2.2.1) (tL := tL) (lP := lP) (tS := tS) (sP := sP) (g0 := kd) (g1 := fr) (g2 := hf) (g3 := to) n1 (by omega) c1.1 r4
        rw [eo, zl_b]
        refine zh_ret (Or.inl ⟨he, Or.inl ⟨rfl, ?_⟩⟩)
        unfold yp_CT
        rw [if_pos h40, hu]
        rfl
    · rw [if_neg h40]
      have hne : (-1000 - p : Int) ≠ 0 := by omega
      show zh_ok ((zf_LawReader_readCondition 1 (-1000 - p) p len c.1 T c.2.1 c.2.2).bind _) _
      rw [yr_readCondf hne (by omega) (by omega), zl_b, ze_skipf hne, zl_b]
      obtain ⟨o, eo⟩ := ze_addClause_a (K := c.2.1) (V := c.2.2) (k := k) (f := f1) (h := c.1) (nc := nc) (st := c.1) (tL := tL) (lP := lP) (tS := tS) (sP := sP) (g0 := kd) (g1 := fr) (g2 := hf) (g3 := to) n1 (by omega) c1.1 c1.2
      rw [eo, zl_b]
      refine zh_ret (Or.inl ⟨hne, Or.inl ⟨rfl, ?_⟩⟩)
      unfold yp_CT
      rw [if_neg h40]
  · rw [ze_skipf hf0, zl_b]
    show zh_ok ((zf_LawReader_readCondition 1 f p len c.1 T c.2.1 c.2.2).bind _) _
    rw [yr_readCondf hf0 (by omega) (by omega), zl_b, ze_skipf hf0, zl_b]
    obtain ⟨o, eo⟩ := ze_addClause_a (K := c.2.1) (V := c.2.2) (k := k) (f := f1) (h := c.1) (nc := nc) (st := c.1) (tL := tL) (lP := lP) (tS := tS) (sP := sP) (g0 := kd) (g1 := fr) (g2 := hf) (g3 := to) n1 (by omega) c1.1 c1.2
    rw [eo, zl_b]
    exact zh_ret (Or.inl ⟨hf0, Or.inr ⟨hf0, rfl⟩⟩)
/-- what the class leaves of a clause -/
def yx_cl (T : Int → Int) (len nc p : Int) (c : zCD) (tL lP tS sP : Int) (kd fr hf to : Int → Int) (o : zXO) : Prop :=
  (o.1 ≠ 0 ∧ yp_CL T len nc p c = some (.inl o.1)) ∨ (o.1 = 0 ∧ ∃ p' c' h ρE, yp_CL T len nc p c = some (.inr (p', c', yp_pk T len p, h)) ∧ yl_kind (yp_pk T len p) ∧ nc < 14 ∧ (yl_am (yp_pk T len p) → ∃ ρ, ρE = some ρ) ∧ yx_ok p c nc (yp_pk T len p) c.1 ρE tL lP tS sP kd fr hf to len p' h c' o)
theorem yx_clause (hl : len ≤ 200) (hT : ∀ j, 0 ≤ j → j < 220 → 0 ≤ T j ∧ T j ≤ 255) {nc tL lP tS sP p : Int} {kd fr hf to : Int → Int} {c : zCD} (n1 : 0 ≤ nc) (n2 : nc ≤ 14) (p1 : 0 ≤ p) (p2 : p ≤ len) (c1 : 0 ≤ c.1) (c2 : c.1 ≤ p) :
    zh_ok (zf_LawReader_readClause 0 p len nc c.1 tL lP tS sP T c.2.1 c.2.2 kd fr hf to) (yx_cl T len nc p c tL lP tS sP kd fr hf to) := by
  unfold zf_LawReader_readClause
  rw [if_pos rfl, ze_peek p1 (by omega), zl_b]
  have full : ∀ o14, zf_LawReader_fail 4 0 p = some o14 → yp_kd (yp_pk T len p) = true → nc = 14 → yx_cl T len nc p c tL lP tS sP kd fr hf to (o14, p, nc, c.1, tL, lP, tS, sP, c.2.1, c.2.2, kd, fr, hf, to) := by
    intro o14 e hkd h14
    rw [ze_fail p1 (by omega) (by decide) (by decide)] at e
    cases e
    refine Or.inl ⟨fun h => ?_, ?_⟩
    · have h : -1000 * 4 - p = 0 := h
      omega
    · unfold yp_CL
      rw [if_pos hkd, if_pos h14]
      rfl
  have amt : yp_ka (yp_pk T len p) = true → yp_kd (yp_pk T len p) = true → zh_ok (if nc = 14 then ((zf_LawReader_fail 4 0 p).bind fun r12 => (some (r12, p, nc, c.1, tL, lP, tS, sP, c.2.1, c.2.2, kd, fr, hf, to))) else ((zf_LawReader_readSum 0 0 (zi_w (p + 1)) len c.1 T c.2.1 c.2.2).bind fun r7 => ((zf_LawReader_skip 40 r7.1 r7.2.1 len T).bind fun r8 => ((zf_LawReader_readCondition 1 r8.1 r8.2 len r7.2.2.1 T r7.2.2.2.1 r7.2.2.2.2).bind fun r9 => ((zf_LawReader_skip 41 r9.1 r9.2.1 len T).bind fun r10 => ((zf_Law_addClause (yp_pk T len p) c.1 r7.2.2.1 nc r9.2.2.1 tL lP tS sP kd fr hf to r9.2.2.2.1 r9.2.2.2.2).bind fun r11 => (some (r10.1, r10.2, r11.1, r9.2.2.1, r11.2.1, r11.2.2.1, r11.2.2.2.1, r11.2.2.2.2.1, r9.2.2.2.1, r9.2.2.2.2, r11.2.2.2.2.2.1, r11.2.2.2.2.2.2.1, r11.2.2.2.2.2.2.2.1, r11.2.2.2.2.2.2.2.2)))))))) (yx_cl T len nc p c tL lP tS sP kd fr hf to) := by
    intro hka hkd
    by_cases h14 : nc = 14
    · rw [if_pos h14]
      have e := ze_fail (k := 4) p1 (by omega : p ≤ 220) (by decide) (by decide)
      rw [e, zl_b]
      exact zh_ret (full _ e hkd h14)
    · rw [if_neg h14]
      have hka' : yp_pk T len p = 119 ∨ yp_pk T len p = 103 ∨ yp_pk T len p = 113 := of_decide_eq_true hka
      have hkd' : yp_pk T len p = 118 ∨ yp_pk T len p = 106 ∨ yp_pk T len p = 119 ∨ yp_pk T len p = 103 ∨ yp_pk T len p = 113 := of_decide_eq_true hkd
      have hp : p < len := yp_pk_lt (T := T) (by rcases hka' with h | h | h <;> omega)
      rw [zi_w_id (x := p + 1) (by omega) (by omega)]
      refine zh_bind (yr_readSum hl hT (by decide) (by decide) (p + 1) c (by omega) (by omega) c1 (by omega)) fun r hr => ?_
      obtain ⟨⟨r1, r2⟩, ⟨r3, r4⟩, ro, rb⟩ := hr
      by_cases he : r.1 = 0
      · have ro := ro he
        have hS := yr_sumS hl (by omega) r2 ro
        obtain ⟨b1, b2, b3, b4, ⟨ρ, b5⟩, b6, b7⟩ := ro
        refine zh_mono (yx_tail (ρE := some ρ) (p0 := p) (c0 := c) hl hT n1 (by omega) (by omega) p1 r2 c1 (fun _ => ⟨by omega, by omega, by omega, by omega⟩) ⟨r3, r4⟩ (fun _ => b4) (fun _ => zd_seg_nd b5 (by decide))) fun o ho => ?_
        rcases ho with ⟨o1, o2⟩ | ⟨o1, -, p', c', o2, o3⟩
        · refine Or.inl ⟨o1, ?_⟩
          unfold yp_CL
          rw [if_pos hkd, if_neg h14, if_pos hka, hS, zl_b]
          rcases o2 with ⟨_, o2⟩ | ⟨o2, _⟩
          · exact o2
          · exact absurd he o2
        · refine Or.inr ⟨o1, p', c', r.2.2.1, some ρ, ?_, hkd', by omega, fun _ => ⟨ρ, rfl⟩, o3⟩
          unfold yp_CL
          rw [if_pos hkd, if_neg h14, if_pos hka, hS, zl_b]
          exact o2
      · have hS := yr_sumN hl (by omega) (rb he)
        refine zh_mono (yx_tail (ρE := none) (p0 := 0) (c0 := c) hl hT n1 (by omega) r1 (by decide) r2 c1 (fun h => absurd h he) ⟨r3, r4⟩ (fun h => absurd h he) (fun h => absurd h he)) fun o ho => ?_
        rcases ho with ⟨o1, o2⟩ | ⟨o1, o2, _⟩
        · refine Or.inl ⟨o1, ?_⟩
          unfold yp_CL
          rw [if_pos hkd, if_neg h14, if_pos hka, hS, zl_b]
          rcases o2 with ⟨o2, _⟩ | ⟨_, o2⟩
          · exact absurd o2 he
          · rw [o2]; rfl
        · exact absurd o2 he
  have pln : ¬ yp_ka (yp_pk T len p) = true → yp_kd (yp_pk T len p) = true → zh_ok (if nc = 14 then ((zf_LawReader_fail 4 0 p).bind fun r32 => (some (r32, p, nc, c.1, tL, lP, tS, sP, c.2.1, c.2.2, kd, fr, hf, to))) else ((zf_LawReader_skip 40 0 (zi_w (p + 1)) len T).bind fun r28 => ((zf_LawReader_readCondition 1 r28.1 r28.2 len c.1 T c.2.1 c.2.2).bind fun r29 => ((zf_LawReader_skip 41 r29.1 r29.2.1 len T).bind fun r30 => ((zf_Law_addClause (yp_pk T len p) c.1 c.1 nc r29.2.2.1 tL lP tS sP kd fr hf to r29.2.2.2.1 r29.2.2.2.2).bind fun r31 => (some (r30.1, r30.2, r31.1, r29.2.2.1, r31.2.1, r31.2.2.1, r31.2.2.2.1, r31.2.2.2.2.1, r29.2.2.2.1, r29.2.2.2.2, r31.2.2.2.2.2.1, r31.2.2.2.2.2.2.1, r31.2.2.2.2.2.2.2.1, r31.2.2.2.2.2.2.2.2))))))) (yx_cl T len nc p c tL lP tS sP kd fr hf to) := by
    intro hka hkd
    by_cases h14 : nc = 14
    · rw [if_pos h14]
      have e := ze_fail (k := 4) p1 (by omega : p ≤ 220) (by decide) (by decide)
      rw [e, zl_b]
      exact zh_ret (full _ e hkd h14)
    · rw [if_neg h14]
      have hkd' : yp_pk T len p = 118 ∨ yp_pk T len p = 106 ∨ yp_pk T len p = 119 ∨ yp_pk T len p = 103 ∨ yp_pk T len p = 113 := of_decide_eq_true hkd
      have hp : p < len := yp_pk_lt (T := T) (by rcases hkd' with h | h | h | h | h <;> omega)
      rw [zi_w_id (x := p + 1) (by omega) (by omega)]
      refine zh_mono (yx_tail (ρE := none) (p0 := p) (c0 := c) (f := 0) hl hT n1 (by omega) (by omega) p1 (by omega) c1 (fun _ => ⟨by omega, by omega, by omega, by omega⟩) ⟨c1, by omega⟩ (fun _ _ _ => ⟨rfl, rfl⟩) (fun _ => trivial)) fun o ho => ?_
      rcases ho with ⟨o1, o2⟩ | ⟨o1, -, p', c', o2, o3⟩
      · refine Or.inl ⟨o1, ?_⟩
        unfold yp_CL
        rw [if_pos hkd, if_neg h14, if_neg hka]
        rcases o2 with ⟨_, o2⟩ | ⟨o2, _⟩
        · exact o2
        · exact absurd rfl o2
      · refine Or.inr ⟨o1, p', c', c.1, none, ?_, hkd', by omega, fun h => absurd (by unfold yp_ka; exact decide_eq_true h) hka, o3⟩
        unfold yp_CL
        rw [if_pos hkd, if_neg h14, if_neg hka]
        exact o2
  by_cases h119 : yp_pk T len p = 119
  · rw [if_pos h119]
    exact amt (by rw [h119]; rfl) (by rw [h119]; rfl)
  rw [if_neg h119]
  by_cases h103 : yp_pk T len p = 103
  · rw [if_pos h103]
    exact amt (by rw [h103]; rfl) (by rw [h103]; rfl)
  rw [if_neg h103]
  by_cases h113 : yp_pk T len p = 113
  · rw [if_pos h113]
    exact amt (by rw [h113]; rfl) (by rw [h113]; rfl)
  rw [if_neg h113]
  by_cases h118 : yp_pk T len p = 118
  · rw [if_pos h118]
    exact pln (by rw [h118]; decide) (by rw [h118]; rfl)
  rw [if_neg h118]
  by_cases h106 : yp_pk T len p = 106
  · rw [if_pos h106]
    exact pln (by rw [h106]; decide) (by rw [h106]; rfl)
  rw [if_neg h106, ze_fail p1 (by omega) (by decide) (by decide), zl_b]
  refine zh_ret (Or.inl ⟨fun h => ?_, ?_⟩)
  · have h : -1000 * 1 - p = 0 := h
    omega
  · unfold yp_CL
    rw [if_neg (fun h => by
      have h := of_decide_eq_true h
      rcases h with h | h | h | h | h
      · exact h118 h
      · exact h106 h
      · exact h119 h
      · exact h103 h
      · exact h113 h)]
    rfl
end YXC
end
section
/-! A clause, read by the reference. -/
section YMC
variable {T M : Int → Int} {len : Int}
theorem ym_cond (hT : yk_T T M) (hl : len ≤ 200) {k p : Int} {c : zCD} {f m num o kk : Int} {W D : Int → Int} {R : Int ⊕ (Int × zCD × Int × Int)} (h : yp_CT T len k p c = some R) (hc : yk_c c m D) (p1 : 0 ≤ p) (p2 : p ≤ len) (cp : c.1 ≤ p) :
    zh_ok (zf_M_readsCondition p len o kk f m num M W D) (fun t => (t.1 = 0 ∧ R = .inl t.2.2.2.2.1) ∨ (t.1 = 1 ∧ ∃ c', R = .inr (t.2.1, c', k, c.1) ∧ yk_c c' t.2.2.2.2.2.1 t.2.2.2.2.2.2.2.2 ∧ (0 ≤ t.2.1 ∧ t.2.1 ≤ len) ∧ c'.1 ≤ t.2.1)) := by
  unfold yp_CT at h
  by_cases h40 : yp_pk T len p = 40
  · rw [if_pos h40] at h
    obtain ⟨q, hq, h⟩ := zi_bind h
    refine zh_mono (ys_cond hT hl h40 hq (by decide) hc p1 cp) fun t ht => ?_
    rcases ht with ⟨t1, t2⟩ | ⟨t1, c', t2, t3⟩
    · subst t2
      simp only [Sum.elim_inl] at h
      cases h
      exact Or.inl ⟨t1, rfl⟩
    · subst t2
      simp only [Sum.elim_inr] at h
      cases h
      exact Or.inr ⟨t1, c', rfl, t3⟩
  · rw [if_neg h40] at h
    cases h
    rw [ys_condN hT hl h40 p1 p2]
    exact zh_ret (Or.inl ⟨rfl, rfl⟩)
theorem ze_isClause {c : Int} : zf_M_isClause c = some (if yp_kd c = true then 1 else 0) := by
  unfold zf_M_isClause
  by_cases h1 : c = 118
  · subst h1; rfl
  rw [if_neg h1]
  by_cases h2 : c = 106
  · subst h2; rfl
  rw [if_neg h2]
  by_cases h3 : c = 119
  · subst h3; rfl
  rw [if_neg h3]
  by_cases h4 : c = 103
  · subst h4; rfl
  rw [if_neg h4]
  by_cases h5 : c = 113
  · subst h5; rfl
  rw [if_neg h5, if_neg]
  intro h
  rcases (of_decide_eq_true h : c = 118 ∨ c = 106 ∨ c = 119 ∨ c = 103 ∨ c = 113) with h | h | h | h | h
  · exact h1 h
  · exact h2 h
  · exact h3 h
  · exact h4 h
  · exact h5 h
abbrev zMO : Type := Int × Int × Int × Int × Int × Int × Int × Int × (Int → Int) × (Int → Int) × (Int → Int) × (Int → Int) × (Int → Int) × (Int → Int)
def ym_ok (T : Int → Int) (len nc p : Int) (c : zCD) (g1 g2 g3 g6 : Int → Int) (R : Int ⊕ (Int × zCD × Int × Int)) (t : zMO) : Prop :=
  (t.1 = 0 ∧ R = .inl t.2.2.2.2.2.2.1) ∨ (t.1 = 1 ∧ ∃ c' h, R = .inr (t.2.1, c', yp_pk T len p, h) ∧ t.2.2.1 = nc + 1 ∧ yk_c c' t.2.2.2.1 t.2.2.2.2.2.2.2.2.2.2.2.2.1 ∧ ((0 ≤ t.2.1 ∧ t.2.1 ≤ len) ∧ c'.1 ≤ t.2.1) ∧
    t.2.2.2.2.2.2.2.2.1 = zv_up g1 nc (yp_pk T len p) ∧ t.2.2.2.2.2.2.2.2.2.1 = zv_up g2 nc c.1 ∧ t.2.2.2.2.2.2.2.2.2.2.1 = zv_up g3 nc h ∧ t.2.2.2.2.2.2.2.2.2.2.2.2.2 = zv_up g6 nc c'.1)
theorem ym_clause (hT : yk_T T M) (hl : len ≤ 200) {nc p : Int} {c : zCD} {m o k f num : Int} {g1 g2 g3 W D g6 : Int → Int} {R : Int ⊕ (Int × zCD × Int × Int)} (h : yp_CL T len nc p c = some R) (hc : yk_c c m D) (n1 : 0 ≤ nc) (n2 : nc ≤ 14) (p1 : 0 ≤ p) (p2 : p ≤ len) (cp : c.1 ≤ p) :
    zh_ok (zf_M_readsClause p len nc m o k f num M g1 g2 g3 W D g6) (ym_ok T len nc p c g1 g2 g3 g6 R) := by
  unfold yp_CL at h
  unfold zf_M_readsClause
  rw [ze_here hT p1 (by omega), zl_b, ze_isClause, zl_b]
  obtain ⟨me, m0⟩ := hc.1
  by_cases hk : yp_kd (yp_pk T len p) = true
  · rw [if_pos hk] at h
    rw [if_pos hk, if_neg (by decide)]
    by_cases h14 : nc = 14
    · rw [if_pos h14] at h
      cases h
      rw [if_pos h14, ze_wrong p1 (by omega) (by decide) (by decide), zl_b]
      exact zh_ret (Or.inl ⟨rfl, rfl⟩)
    · rw [if_neg h14] at h
      have hkd : yp_pk T len p = 118 ∨ yp_pk T len p = 106 ∨ yp_pk T len p = 119 ∨ yp_pk T len p = 103 ∨ yp_pk T len p = 113 := of_decide_eq_true hk
      have hp : p < len := yp_pk_lt (T := T) (by omega)
      rw [if_neg h14, zl_ci n1 (by omega), zi_w_id (x := p + 1) (by omega) (by omega), zi_w_id (x := nc + 1) (by omega) (by omega)]
      have pln : ¬ yp_ka (yp_pk T len p) = true → zh_ok ((zf_M_readsCondition (p + 1) len 0 0 f m num M W D).bind fun r7 => (if r7.1 = 0 then (some ((0 : Int), r7.2.1, nc, r7.2.2.2.2.2.1, r7.2.2.1, r7.2.2.2.1, r7.2.2.2.2.1, r7.2.2.2.2.2.2.1, (zv_up g1 nc (yp_pk T len p)), (zv_up g2 nc m), (zv_up g3 nc m), r7.2.2.2.2.2.2.2.1, r7.2.2.2.2.2.2.2.2, g6)) else (some ((1 : Int), r7.2.1, nc + 1, r7.2.2.2.2.2.1, r7.2.2.1, r7.2.2.2.1, r7.2.2.2.2.1, r7.2.2.2.2.2.2.1, (zv_up g1 nc (yp_pk T len p)), (zv_up g2 nc m), (zv_up g3 nc m), r7.2.2.2.2.2.2.2.1, r7.2.2.2.2.2.2.2.2, (zv_up g6 nc r7.2.2.2.2.2.1))))) (ym_ok T len nc p c g1 g2 g3 g6 R) := by
        intro hka
        rw [if_neg hka] at h
        refine zh_bind (ym_cond hT hl h hc (by omega) (by omega) (by omega)) fun t ht => ?_
        rcases ht with ⟨t1, t2⟩ | ⟨t1, c', t2, t3, t4, t5⟩
        · rw [if_pos t1]
          exact zh_ret (Or.inl ⟨rfl, t2⟩)
        · rw [if_neg (by omega)]
          obtain ⟨me2, _⟩ := t3.1
          exact zh_ret (Or.inr ⟨rfl, c', c.1, t2, rfl, t3, ⟨t4, t5⟩, rfl, by rw [me], by rw [me], by rw [me2]⟩)
      by_cases h118 : yp_pk T len p = 118
      · rw [if_pos h118]
        exact pln (by rw [h118]; decide)
      rw [if_neg h118]
      by_cases h106 : yp_pk T len p = 106
      · rw [if_pos h106]
        exact pln (by rw [h106]; decide)
      rw [if_neg h106]
      have hka : yp_ka (yp_pk T len p) = true := decide_eq_true (by omega)
      rw [if_pos hka] at h
      obtain ⟨q, hq, h⟩ := zi_bind h
      refine zh_bind (ys_sum (b := 0) (sl := 0) hT hl (by decide) hq (by decide) (Or.inl rfl) hc (by omega) (by omega) (by omega) (by show c.1 + ((0 : Nat) : Int) ≤ p + 1; omega) (by decide) (by decide)) fun t ht => ?_
      rcases ht with ⟨t1, t2⟩ | ⟨t1, c1, t2, t3, t4, t5, ⟨t6, t7⟩, t8, ⟨t9, t11⟩, t10⟩
      · subst t2
        simp only [Sum.elim_inl] at h
        cases h
        rw [if_pos t1]
        exact zh_ret (Or.inl ⟨rfl, rfl⟩)
      · subst t2
        simp only [Sum.elim_inr] at h
        obtain ⟨me1, _⟩ := t5.1
        rw [if_neg (by omega)]
        have t9 : c1.1 + ((0 : Nat) : Int) ≤ t.2.2.1 := t9
        refine zh_bind (ym_cond hT hl h t5 t6 t7 (by omega)) fun u hu => ?_
        rcases hu with ⟨u1, u2⟩ | ⟨u1, c', u2, u3, u4, u5⟩
        · rw [if_pos u1]
          exact zh_ret (Or.inl ⟨rfl, u2⟩)
        · rw [if_neg (by omega)]
          obtain ⟨me2, _⟩ := u3.1
          exact zh_ret (Or.inr ⟨rfl, c', c1.1, u2, rfl, u3, ⟨u4, u5⟩, rfl, by rw [me], by rw [me1], by rw [me2]⟩)
  · rw [if_neg hk] at h
    cases h
    rw [if_neg hk, if_pos rfl, ze_wrong p1 (by omega) (by decide) (by decide), zl_b]
    exact zh_ret (Or.inl ⟨rfl, rfl⟩)
end YMC
end
section
/-! A whole law, read on both sides. -/
section YLPOS
variable {T : Int → Int} {len : Int}
theorem yp_nm_0 : ∀ (k : Nat) (v p : Int), 0 ≤ p → 0 ≤ (yp_nm T len k v p).2
  | 0, _, _, h => h
  | k + 1, v, p, h => by
    unfold yp_nm
    split
    · exact yp_nm_0 k _ _ (by omega)
    · exact h
theorem yp_S_pos : ∀ (n : Nat) (b : Bool) (w : List Int) (o p : Int) (c : zCD) (R : Int ⊕ (Int × zCD)), 0 ≤ p → yp_S T len n b w o p c = some R → Sum.elim (fun f => f < 0) (fun q => 0 ≤ q.1) R := by
  intro n
  induction n with
  | zero => intro b w o p c R _ h; exact zl_ns h
  | succ n ih =>
    intro b w o p c R hp h
    cases b with
    | true =>
      rw [yp_S_t] at h
      split at h
      · split at h
        · cases h; show -5000 - p < 0; omega
        · exact ih _ _ _ _ _ _ (by omega) h
      · split at h
        · have := yp_nm_0 (T := T) (len := len) 5 0 p hp
          split at h
          · cases h; show -2000 - _ < 0; omega
          · exact ih _ _ _ _ _ _ this h
        · split at h
          · cases h; show -1000 - p < 0; omega
          · exact ih _ _ _ _ _ _ (by omega) h
    | false =>
      rw [yp_S_f] at h
      split at h
      · exact ih _ _ _ _ _ _ (by omega) h
      · split at h
        · split at h
          · exact ih _ _ _ _ _ _ (by omega) h
          · cases h; show -1000 - p < 0; omega
        · cases h; exact hp
theorem yp_C_pos : ∀ (n : Nat) (b : Bool) (w : zWT) (o p : Int) (c : zCD) (R : Int ⊕ (Int × zCD)), 0 ≤ p → yp_C T len n b w o p c = some R → Sum.elim (fun f => f < 0) (fun q => 0 ≤ q.1) R := by
  intro n
  induction n with
  | zero => intro b w o p c R _ h; exact zl_ns h
  | succ n ih =>
    intro b w o p c R hp h
    cases b with
    | true =>
      rw [yp_C_t] at h
      split at h
      · split at h
        · cases h; show -5000 - p < 0; omega
        · exact ih _ _ _ _ _ _ (by omega) h
      · split at h
        · split at h
          · cases h; show -5000 - p < 0; omega
          · exact ih _ _ _ _ _ _ (by omega) h
        · obtain ⟨q, hq, h⟩ := zi_bind h
          have hq2 := yp_S_pos _ _ _ _ _ _ _ hp hq
          cases q with
          | inl f =>
            simp only [Sum.elim_inl] at h
            cases h
            exact hq2
          | inr q =>
            simp only [Sum.elim_inr] at h hq2
            split at h
            · cases h; show -1000 - q.1 < 0; omega
            · obtain ⟨u, hu, h⟩ := zi_bind h
              have hu2 := yp_S_pos _ _ _ _ _ _ _ (by omega) hu
              cases u with
              | inl f =>
                simp only [Sum.elim_inl] at h
                cases h
                exact hu2
              | inr u =>
                simp only [Sum.elim_inr] at h hu2
                exact ih _ _ _ _ _ _ hu2 h
    | false =>
      rw [yp_C_f] at h
      split at h
      · exact ih _ _ _ _ _ _ hp h
      · split at h
        · split at h
          · cases h; show 0 ≤ p + 1; omega
          · exact ih _ _ _ _ _ _ (by omega) h
        · split at h
          · exact ih _ _ _ _ _ _ (by omega) h
          · split at h
            · exact ih _ _ _ _ _ _ (by omega) h
            · cases h; show -1000 - p < 0; omega
theorem yp_CT_neg {k p f : Int} {c : zCD} (hp : 0 ≤ p) (h : yp_CT T len k p c = some (.inl f)) : f < 0 := by
  unfold yp_CT at h
  split at h
  · obtain ⟨q, hq, h⟩ := zi_bind h
    have hq2 := yp_C_pos _ _ _ _ _ _ _ (by omega) hq
    cases q with
    | inl g =>
      simp only [Sum.elim_inl] at h
      cases h
      exact hq2
    | inr q =>
      simp only [Sum.elim_inr] at h
      cases h
  · cases h; omega
theorem yp_CL_neg {nc p f : Int} {c : zCD} (hp : 0 ≤ p) (h : yp_CL T len nc p c = some (.inl f)) : f < 0 := by
  unfold yp_CL at h
  split at h
  · split at h
    · cases h; omega
    · split at h
      · obtain ⟨q, hq, h⟩ := zi_bind h
        have hq2 := yp_S_pos _ _ _ _ _ _ _ (by omega) hq
        cases q with
        | inl g =>
          simp only [Sum.elim_inl] at h
          cases h
          exact hq2
        | inr q =>
          simp only [Sum.elim_inr] at h hq2
          exact yp_CT_neg hq2 h
      · exact yp_CT_neg (by omega) h
  · cases h; omega
end YLPOS
/-- both sides, while all goes well -/
def yl_J (len : Int) (L : zLW) (p : Int) (c : zCD) (nc tS tL sP lP : Int) (kd fr hf to : Int → Int) (m sm : Int) (g1 g2 g3 g5 g6 : Int → Int) : Prop :=
  (nc = L.1 ∧ 0 ≤ nc ∧ nc ≤ 14) ∧ (0 ≤ p ∧ p ≤ len) ∧ (0 ≤ c.1 ∧ c.1 ≤ p) ∧ (∀ q, 0 ≤ q → q < nc → kd q = L.2.1 q ∧ g1 q = L.2.1 q ∧ g2 q = fr q ∧ g3 q = hf q ∧ g6 q = to q) ∧ yl_cl c.2.1 c.2.2 c.1 L fr hf to ∧ yl_fl c.2.1 c.2.2 L hf to tS tL sP lP ∧ yk_c c m g5 ∧ sm = nc
theorem yl_fl_add {K V K2 V2 : Int → Int} {L : zLW} {hf to : Int → Int} {tS tL sP lP tS2 tL2 sP2 lP2 k h st st2 : Int} {ρC ρE : (Int → Int) → Option Int} (h0 : 0 ≤ L.1) (hf0 : yl_fl K V L hf to tS tL sP lP) (hm : yl_mk K2 V2 k h st2 tL lP tS sP tL2 lP2 tS2 sP2) (hK : ∀ j, j < st → K2 j = K j ∧ V2 j = V j) (hto : ∀ q, 0 ≤ q → q < L.1 → to q ≤ st) : yl_fl K2 V2 (yl_add L k ρC ρE) (zv_up hf L.1 h) (zv_up to L.1 st2) tS2 tL2 sP2 lP2 := by
  obtain ⟨⟨a1, a2⟩, ⟨a3, a4, a5⟩, a6, a7⟩ := hf0
  obtain ⟨⟨m1, m2⟩, m3, m4⟩ := hm
  refine ⟨⟨?_, ?_⟩, ⟨?_, ?_, ?_⟩, ?_, ?_⟩
  · rw [m1]; exact yl_tell_add h0 a1
  · rw [m2]; exact yl_tell_add h0 a2
  · exact yl_byp_add a3 (fun e => ⟨(m3 e).1, fun hk j j1 j2 j3 => ((m3 e).2 hk j j1 j2 j3).1⟩) hK hto
  · exact yl_byp_add a4 (fun e => ⟨(m3 e).1, fun hk j j1 j2 j3 => ((m3 e).2 hk j j1 j2 j3).2.1⟩) hK hto
  · exact yl_byp_add a5 (fun e => ⟨(m3 e).1, fun hk j j1 j2 j3 => ((m3 e).2 hk j j1 j2 j3).2.2⟩) hK hto
  · exact yl_byp_add a6 (fun e => ⟨(m4 e).1, fun hk j j1 j2 j3 => ((m4 e).2 hk j j1 j2 j3).1⟩) hK hto
  · exact yl_byp_add a7 (fun e => ⟨(m4 e).1, fun hk j j1 j2 j3 => ((m4 e).2 hk j j1 j2 j3).2⟩) hK hto
section YLJ
variable {T M : Int → Int} {len : Int}
/-- one clause on both sides -/
theorem yl_step (hT : yk_T T M) (hl : len ≤ 200) {L : zLW} {p : Int} {c : zCD} {nc tS tL sP lP : Int} {kd fr hf to : Int → Int} {m sm : Int} {g1 g2 g3 g4 g5 g6 : Int → Int} {o k f num : Int} (J : yl_J len L p c nc tS tL sP lP kd fr hf to m sm g1 g2 g3 g5 g6) :
    ∃ (x : zXO) (y : zMO), zf_LawReader_readClause 0 p len nc c.1 tL lP tS sP T c.2.1 c.2.2 kd fr hf to = some x ∧ zf_M_readsClause p len sm m o k f num M g1 g2 g3 g4 g5 g6 = some y ∧
      ((x.1 < 0 ∧ y.1 = 0 ∧ y.2.2.2.2.2.2.1 = x.1) ∨ (x.1 = 0 ∧ y.1 = 1 ∧ y.2.1 = x.2.1 ∧ p < x.2.1 ∧ x.2.2.1 = nc + 1 ∧ ∃ L2, yl_J len L2 x.2.1 (x.2.2.2.1, x.2.2.2.2.2.2.2.2.1, x.2.2.2.2.2.2.2.2.2.1) x.2.2.1 x.2.2.2.2.2.2.1 x.2.2.2.2.1 x.2.2.2.2.2.2.2.1 x.2.2.2.2.2.1 x.2.2.2.2.2.2.2.2.2.2.1 x.2.2.2.2.2.2.2.2.2.2.2.1 x.2.2.2.2.2.2.2.2.2.2.2.2.1 x.2.2.2.2.2.2.2.2.2.2.2.2.2 y.2.2.2.1 y.2.2.1 y.2.2.2.2.2.2.2.2.1 y.2.2.2.2.2.2.2.2.2.1 y.2.2.2.2.2.2.2.2.2.2.1 y.2.2.2.2.2.2.2.2.2.2.2.2.1 y.2.2.2.2.2.2.2.2.2.2.2.2.2)) := by
  obtain ⟨⟨j1, j2, j3⟩, ⟨j4, j5⟩, ⟨j6, j7⟩, j8, j9, j10, j11, j12⟩ := J
  obtain ⟨x, ex, hx⟩ := yx_clause (tL := tL) (lP := lP) (tS := tS) (sP := sP) (kd := kd) (fr := fr) (hf := hf) (to := to) hl (fun j a b => (hT j a b).2) j2 j3 j4 j5 j6 j7
  rcases hx with ⟨x1, x2⟩ | ⟨x1, p', c', h, ρE, x2, x3, x4, x5, x6⟩
  · obtain ⟨y, ey, hy⟩ := ym_clause (o := o) (k := k) (f := f) (num := num) (g1 := g1) (g2 := g2) (g3 := g3) (W := g4) (g6 := g6) hT hl x2 j11 j2 j3 j4 j5 j7
    rcases hy with ⟨y1, y2⟩ | ⟨y1, c', h, y2, _⟩
    · refine ⟨x, y, ex, by rw [j12]; exact ey, Or.inl ⟨yp_CL_neg j4 x2, y1, (Sum.inl.inj y2).symm⟩⟩
    · cases y2
  · obtain ⟨y, ey, hy⟩ := ym_clause (o := o) (k := k) (f := f) (num := num) (g1 := g1) (g2 := g2) (g3 := g3) (W := g4) (g6 := g6) hT hl x2 j11 j2 j3 j4 j5 j7
    rcases hy with ⟨y1, y2⟩ | ⟨y1, c2, h2, y2, y3, y4, ⟨⟨y5, y6⟩, y7⟩, y8, y9, y10, y11⟩
    · cases y2
    · obtain ⟨⟨a1, a2, a3⟩, a4, ⟨a5, a6, a7⟩, ⟨a8, a9, a10, a11⟩, ⟨a12, a13, a14, a15⟩, a16, ⟨ρC, a17⟩, a18⟩ := x6
      have e1 : p' = y.2.1 ∧ c' = c2 ∧ h = h2 := by
        cases y2
        exact ⟨rfl, rfl, rfl⟩
      obtain ⟨e1, e2, e3⟩ := e1
      subst e2
      subst e3
      refine ⟨x, y, ex, by rw [j12]; exact ey, Or.inr ⟨x1, y1, by rw [a1, e1], by omega, a4, yl_add L (yp_pk T len p) ρC (ρE.getD fun _ => none), ?_⟩⟩
      have ec : (x.2.2.2.1, x.2.2.2.2.2.2.2.2.1, x.2.2.2.2.2.2.2.2.2.1) = c' := by
        rw [a5, a6, a7]
      rw [ec, a12, a13, a14, a15, y8, y9, y10, y11, j1]
      obtain ⟨ym, y0⟩ := y4.1
      refine ⟨⟨by rw [a4, j1]; rfl, by omega, by omega⟩, ⟨by omega, by omega⟩, ⟨y0, by omega⟩, fun q q1 q2 => ?_, ?_, ?_, y4, by omega⟩
      · rw [a4] at q2
        show zv_up kd L.1 (yp_pk T len p) q = zv_up L.2.1 L.1 (yp_pk T len p) q ∧ zv_up g1 L.1 (yp_pk T len p) q = zv_up L.2.1 L.1 (yp_pk T len p) q ∧ zv_up g2 L.1 c.1 q = zv_up fr L.1 c.1 q ∧ zv_up g3 L.1 h q = zv_up hf L.1 h q ∧ zv_up g6 L.1 c'.1 q = zv_up to L.1 c'.1 q
        by_cases e : q = L.1
        · subst e
          exact ⟨by rw [zv_up_s, zv_up_s], by rw [zv_up_s, zv_up_s], by rw [zv_up_s, zv_up_s], by rw [zv_up_s, zv_up_s], by rw [zv_up_s, zv_up_s]⟩
        · obtain ⟨b1, b2, b3, b4, b5⟩ := j8 q q1 (by omega)
          exact ⟨by rw [zv_up_n e, zv_up_n e]; exact b1, by rw [zv_up_n e, zv_up_n e]; exact b2, by rw [zv_up_n e, zv_up_n e]; exact b3, by rw [zv_up_n e, zv_up_n e]; exact b4, by rw [zv_up_n e, zv_up_n e]; exact b5⟩
      · refine yl_cl_add j9 a11 x3 (Int.le_refl _) a8 a9 j6 a17 fun ha => ?_
        obtain ⟨ρ, eρ⟩ := x5 ha
        subst eρ
        exact a18
      · exact yl_fl_add (by omega) j10 a16 a11 fun q q1 q2 => (j9 q q1 q2).2.1.2.2.2
theorem yx_readf {n : Nat} {mo f p st nc tS tL sP lP : Int} {K V kd fr hf to : Int → Int} (hf0 : f ≠ 0) : zf_LawReader_read_l0 len T (n + 1) mo p f st nc tS tL sP lP K V kd fr hf to = some (p, f, st, nc, tS, tL, sP, lP, K, V, kd, fr, hf, to) := by
  show zf_LawReader_read_l0_b len T (zf_LawReader_read_l0 len T n) mo p f st nc tS tL sP lP K V kd fr hf to = _
  unfold zf_LawReader_read_l0_b
  by_cases h : mo < 14
  · rw [if_pos h, if_neg hf0]
  · rw [if_neg h]
theorem ym_lawf {n : Nat} {p m sm o k f num : Int} {g1 g2 g3 g4 g5 g6 : Int → Int} : zf_M_law_l0 len M (n + 1) 0 p m sm o k f num g1 g2 g3 g4 g5 g6 = some (0, p, m, sm, o, k, f, num, g1, g2, g3, g4, g5, g6) := by
  show zf_M_law_l0_b len M (zf_M_law_l0 len M n) 0 p m sm o k f num g1 g2 g3 g4 g5 g6 = _
  unfold zf_M_law_l0_b
  rw [if_pos rfl]
/-- the clauses that follow, on both sides -/
theorem yl_loop (hT : yk_T T M) (hl : len ≤ 200) : ∀ (d : Nat) {L : zLW} {p : Int} {c : zCD} {nc tS tL sP lP : Int} {kd fr hf to : Int → Int} {m sm : Int} {g1 g2 g3 g4 g5 g6 : Int → Int} {o k f num : Int} (n n2 : Nat), len - p ≤ d → 1 ≤ nc → d + 1 < n → d + 1 < n2 → yl_J len L p c nc tS tL sP lP kd fr hf to m sm g1 g2 g3 g5 g6 →
    ∃ x y, zf_LawReader_read_l0 len T n (nc - 1) p 0 c.1 nc tS tL sP lP c.2.1 c.2.2 kd fr hf to = some x ∧ zf_M_law_l0 len M n2 1 p m sm o k f num g1 g2 g3 g4 g5 g6 = some y ∧
      ((x.2.1 < 0 ∧ y.1 = 0 ∧ y.2.2.2.2.2.2.1 = x.2.1) ∨ (x.2.1 = 0 ∧ y.1 = 1 ∧ ∃ L2, yl_J len L2 x.1 (x.2.2.1, x.2.2.2.2.2.2.2.2.1, x.2.2.2.2.2.2.2.2.2.1) x.2.2.2.1 x.2.2.2.2.1 x.2.2.2.2.2.1 x.2.2.2.2.2.2.1 x.2.2.2.2.2.2.2.1 x.2.2.2.2.2.2.2.2.2.2.1 x.2.2.2.2.2.2.2.2.2.2.2.1 x.2.2.2.2.2.2.2.2.2.2.2.2.1 x.2.2.2.2.2.2.2.2.2.2.2.2.2 y.2.2.1 y.2.2.2.1 y.2.2.2.2.2.2.2.2.1 y.2.2.2.2.2.2.2.2.2.1 y.2.2.2.2.2.2.2.2.2.2.1 y.2.2.2.2.2.2.2.2.2.2.2.2.1 y.2.2.2.2.2.2.2.2.2.2.2.2.2 ∧ 1 ≤ x.2.2.2.1)) := by
  intro d
  induction d with
  | zero =>
    intro L p c nc tS tL sP lP kd fr hf to m sm g1 g2 g3 g4 g5 g6 o k f num n n2 hd hn h1 h2 J
    obtain ⟨n, rfl⟩ : ∃ q, n = q + 1 := ⟨n - 1, by omega⟩
    obtain ⟨n2, rfl⟩ : ∃ q, n2 = q + 1 := ⟨n2 - 1, by omega⟩
    have hnc := J.1.2.2
    refine ⟨(p, 0, c.1, nc, tS, tL, sP, lP, c.2.1, c.2.2, kd, fr, hf, to), (1, p, m, sm, o, k, f, num, g1, g2, g3, g4, g5, g6), ?_, ?_, Or.inr ⟨rfl, rfl, L, J, hn⟩⟩
    · show zf_LawReader_read_l0_b len T (zf_LawReader_read_l0 len T n) (nc - 1) p 0 c.1 nc tS tL sP lP c.2.1 c.2.2 kd fr hf to = some (p, 0, c.1, nc, tS, tL, sP, lP, c.2.1, c.2.2, kd, fr, hf, to)
      unfold zf_LawReader_read_l0_b
      rw [if_pos (by omega), if_pos rfl, if_neg (by omega)]
    · show zf_M_law_l0_b len M (zf_M_law_l0 len M n2) 1 p m sm o k f num g1 g2 g3 g4 g5 g6 = _
      unfold zf_M_law_l0_b
      rw [if_neg (by decide), if_neg (by omega)]
  | succ d ih =>
    intro L p c nc tS tL sP lP kd fr hf to m sm g1 g2 g3 g4 g5 g6 o k f num n n2 hd hn h1 h2 J
    obtain ⟨n, rfl⟩ : ∃ q, n = q + 1 := ⟨n - 1, by omega⟩
    obtain ⟨n2, rfl⟩ : ∃ q, n2 = q + 1 := ⟨n2 - 1, by omega⟩
    have hnc := J.1.2.2
    have hp0 := J.2.1.1
    show ∃ x y, zf_LawReader_read_l0_b len T (zf_LawReader_read_l0 len T n) (nc - 1) p 0 c.1 nc tS tL sP lP c.2.1 c.2.2 kd fr hf to = some x ∧ zf_M_law_l0_b len M (zf_M_law_l0 len M n2) 1 p m sm o k f num g1 g2 g3 g4 g5 g6 = some y ∧ _
    unfold zf_LawReader_read_l0_b zf_M_law_l0_b
    rw [if_pos (show nc - 1 < 14 by omega), if_pos rfl, if_neg (show ¬ (1 : Int) = 0 by decide)]
    by_cases hp : p < len
    · rw [if_pos hp, if_pos hp, ze_skip hp0 (by omega) (by omega), zl_b]
      unfold zf_M_takes
      rw [ze_here hT hp0 (by omega), zl_b, zi_w_id (x := nc - 1 + 1) (by omega) (by omega)]
      by_cases h59 : yp_pk T len p = 59
      · rw [if_pos h59, if_pos h59, zl_b, zi_w_id (x := p + 1) (by omega) (by omega), if_neg (show ¬ (1 : Int) = 0 by decide)]
        obtain ⟨j1, j2, ⟨j6, j7⟩, j8, j9, j10, j11, j12⟩ := J
        obtain ⟨x, y, ex, ey, hxy⟩ := yl_step (o := o) (k := k) (f := f) (num := num) (g4 := g4) hT hl (p := p + 1) ⟨j1, ⟨by omega, by omega⟩, ⟨j6, by omega⟩, j8, j9, j10, j11, j12⟩
        show ∃ x y, ((zf_LawReader_readClause 0 (p + 1) len nc c.1 tL lP tS sP T c.2.1 c.2.2 kd fr hf to).bind _) = some x ∧ ((zf_M_readsClause (p + 1) len sm m o k f num M g1 g2 g3 g4 g5 g6).bind _) = some y ∧ _
        rw [ex, zl_b, ey, zl_b]
        rcases hxy with ⟨q1, q2, q3⟩ | ⟨q1, q2, q3, q4, q5, L2, q6⟩
        · obtain ⟨n, rfl⟩ : ∃ q, n = q + 1 := ⟨n - 1, by omega⟩
          obtain ⟨n2, rfl⟩ : ∃ q, n2 = q + 1 := ⟨n2 - 1, by omega⟩
          rw [yx_readf (by omega), if_pos q2, ym_lawf]
          exact ⟨_, _, rfl, rfl, Or.inl ⟨q1, rfl, q3⟩⟩
        · rw [if_neg (show ¬ y.1 = 0 by omega), q1, q3, show nc - 1 + 1 = x.2.2.1 - 1 by omega]
          exact ih n n2 (by omega) (by omega) (by omega) (by omega) q6
      · rw [if_neg h59, if_neg h59, ze_wrong hp0 (by omega) (by decide) (by decide), zl_b]
        obtain ⟨n, rfl⟩ : ∃ q, n = q + 1 := ⟨n - 1, by omega⟩
        obtain ⟨n2, rfl⟩ : ∃ q, n2 = q + 1 := ⟨n2 - 1, by omega⟩
        have hne : (-1000 - p : Int) ≠ 0 := by omega
        have eC : zf_LawReader_readClause (-1000 - p) p len nc c.1 tL lP tS sP T c.2.1 c.2.2 kd fr hf to = some (-1000 - p, p, nc, c.1, tL, lP, tS, sP, c.2.1, c.2.2, kd, fr, hf, to) := by
          unfold zf_LawReader_readClause
          rw [if_neg hne]
        refine ⟨(p, -1000 - p, c.1, nc, tS, tL, sP, lP, c.2.1, c.2.2, kd, fr, hf, to), (0, p, m, sm, o, k, -1000 * 1 - p, num, g1, g2, g3, g4, g5, g6), ?_, ?_, Or.inl ⟨(by show -1000 - p < 0; omega), rfl, rfl⟩⟩
        · show ((zf_LawReader_readClause (-1000 - p) p len nc c.1 tL lP tS sP T c.2.1 c.2.2 kd fr hf to).bind _) = _
          rw [eC, zl_b]
          exact yx_readf hne
        · exact ym_lawf (len := len) (M := M) (n := n2)
    · rw [if_neg hp, if_neg hp]
      exact ⟨_, _, rfl, rfl, Or.inr ⟨rfl, rfl, L, J, hn⟩⟩
end YLJ
end
