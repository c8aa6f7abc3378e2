/-! What holds while names are settled. -/
def yc_N (nr : Int → Int) (a b : Nat) : Bool := (decide (a < 8) && decide (b < 8)) && zb (nr a) b
def yc_J (z : Int) (J : Int → Int) (i j : Nat) : Bool := (decide (i < 24) && decide (j < 24)) && ((zb z i && zb z j) && zb (J i) j)
def yc_R (G : Int → Int) (o : Int) (b j : Nat) : Bool := zb (G (o + b)) j
def ym_H (nr J : Int → Int) : Prop := (∀ a : Nat, a < 8 → z24 (nr a) ∧ zs_sum (nr a) 24 ≤ 7 ∧ zb (nr a) a = false) ∧ (∀ a b : Nat, a < 8 → b < 8 → zb (nr a) b = zb (nr b) a) ∧ (∀ i : Nat, i < 24 → z24 (J i) ∧ zb (J i) i = false) ∧ ∀ i j : Nat, i < 24 → j < 24 → zb (J i) j = zb (J j) i
section YCI
variable {z : Int} {nr J : Int → Int}
theorem yc_N_t {a b : Nat} : yc_N nr a b = true ↔ a < 8 ∧ b < 8 ∧ zb (nr a) b = true := by
  unfold yc_N
  rw [Bool.and_eq_true, Bool.and_eq_true, decide_eq_true_iff, decide_eq_true_iff]
  exact ⟨fun ⟨⟨p, q⟩, r⟩ => ⟨p, q, r⟩, fun ⟨p, q, r⟩ => ⟨⟨p, q⟩, r⟩⟩
theorem yc_J_t {i j : Nat} : yc_J z J i j = true ↔ i < 24 ∧ j < 24 ∧ zb z i = true ∧ zb z j = true ∧ zb (J i) j = true := by
  unfold yc_J
  rw [Bool.and_eq_true, Bool.and_eq_true, Bool.and_eq_true, Bool.and_eq_true, decide_eq_true_iff, decide_eq_true_iff]
  exact ⟨fun ⟨⟨p, q⟩, ⟨r, s⟩, t⟩ => ⟨p, q, r, s, t⟩, fun ⟨p, q, r, s, t⟩ => ⟨⟨p, q⟩, ⟨r, s⟩, t⟩⟩
theorem yc_N_s (H : ym_H nr J) (a b : Nat) : yc_N nr a b = yc_N nr b a := by
  rw [Bool.eq_iff_iff, yc_N_t, yc_N_t]
  constructor
  · rintro ⟨p, q, r⟩; exact ⟨q, p, by rw [← H.2.1 a b p q]; exact r⟩
  · rintro ⟨p, q, r⟩; exact ⟨q, p, by rw [← H.2.1 b a p q]; exact r⟩
theorem yc_J_s (H : ym_H nr J) (i j : Nat) : yc_J z J i j = yc_J z J j i := by
  rw [Bool.eq_iff_iff, yc_J_t, yc_J_t]
  constructor
  · rintro ⟨p, q, r, s, t⟩; exact ⟨q, p, s, r, by rw [← H.2.2.2 i j p q]; exact t⟩
  · rintro ⟨p, q, r, s, t⟩; exact ⟨q, p, s, r, by rw [← H.2.2.2 j i p q]; exact t⟩
theorem yc_J_x (H : ym_H nr J) (i : Nat) : yc_J z J i i = false := by
  rw [Bool.eq_false_iff]
  intro h
  obtain ⟨p, -, -, -, t⟩ := yc_J_t.mp h
  rw [(H.2.2.1 i p).2] at t
  cases t
theorem ym_nw_t {a i b q : Nat} {v : Int} (hv : z24 v) (hi : i < 24) : zb (ym_nw nr J a i v b) q = true ↔ zb v q = true ∧ q ≠ i ∧ (zb (nr a) b = true → zb (J i) q = true) := by
  by_cases hq : q < 24
  · rw [ym_nw_b (by omega) (by omega) hq]
    show (zb v q && (!decide (q = i) && (!zb (nr a) b || zb (J i) q))) = true ↔ _
    by_cases e : q = i
    · rw [decide_eq_true e, Bool.not_true, Bool.false_and, Bool.and_false]
      exact ⟨fun h => (by cases h), fun h => absurd e h.2.1⟩
    · rw [decide_eq_false e, Bool.not_false, Bool.true_and]
      cases zb v q <;> cases zb (nr a) b <;> cases zb (J i) q <;> simp [e]
  · rw [z24_b (ym_nw_24 hv) (by omega), z24_b hv (by omega)]
    exact ⟨fun h => (by cases h), fun h => (by cases h.1)⟩
def ym_I (z : Int) (J : Int → Int) (Fx : Nat → Prop) (sf : Nat → Nat) (U : Nat → Prop) (o x2 : Int) (G : Int → Int) : Prop :=
  (∀ b : Nat, b < 8 → zb x2 b = true → z24 (G (o + b)) ∧ ∀ j, zb (G (o + b)) j = true → zb z j = true ∧ ¬ U j) ∧
  (∀ b : Nat, b < 8 → zb x2 b = true → Fx b → ∀ j, zb (G (o + b)) j = true → j = sf b) ∧
  (∀ b : Nat, b < 8 → Fx b → zb x2 b = true ∨ U (sf b)) ∧
  ∀ b : Nat, b < 8 → zb x2 b = true → ¬ Fx b → ∀ p q : Nat, p < 24 → q < 24 → ym_tw z J p q → ¬ U p → ¬ U q → (∀ c : Nat, c < 8 → Fx c → sf c ≠ p ∧ sf c ≠ q) → zb (G (o + b)) p = true → zb (G (o + b)) q = true
variable {Fx : Nat → Prop} {sf : Nat → Nat} {U : Nat → Prop} {o x2 : Int} {G : Int → Int}
theorem ym_I_nw (H : ym_H nr J) (hI : ym_I z J Fx sf U o x2 G) {a i : Nat} (ha : a < 8) (hxa : zb x2 a = true) (hi : i < 24) (hra : zb (G (o + a)) i = true) {x6 : Int} (h6 : ∀ b : Nat, b < 8 → (zb x6 b = true ↔ zb x2 b = true ∧ b ≠ a)) {G1 : Int → Int} (hG : ∀ b : Nat, b < 8 → zb x6 b = true → G1 (o + 8 + b) = ym_nw nr J a i (G (o + b)) b) : ym_I z J Fx sf (fun j => U j ∨ j = i) (o + 8) x6 G1 := by
  obtain ⟨i1, i2, i3, i4⟩ := hI
  have hzi := (i1 a ha hxa).2 i hra
  refine ⟨fun b hb hx => ?_, fun b hb hx hf j hj => ?_, fun b hb hf => ?_, fun b hb hx hf p q hp hq ht hup huq hc hbp => ?_⟩
  · obtain ⟨x1, x3⟩ := (h6 b hb).mp hx
    obtain ⟨y1, y2⟩ := i1 b hb x1
    rw [hG b hb hx]
    refine ⟨ym_nw_24 y1, fun j hj => ?_⟩
    obtain ⟨q1, q2, -⟩ := (ym_nw_t y1 hi).mp hj
    exact ⟨(y2 j q1).1, fun w => w.elim (y2 j q1).2 q2⟩
  · obtain ⟨x1, x3⟩ := (h6 b hb).mp hx
    rw [hG b hb hx] at hj
    exact i2 b hb x1 hf j ((ym_nw_t (i1 b hb x1).1 hi).mp hj).1
  · rcases i3 b hb hf with h | h
    · by_cases e : b = a
      · subst e
        exact .inr (.inr (i2 b hb h hf i hra).symm)
      · exact .inl ((h6 b hb).mpr ⟨h, e⟩)
    · exact .inr (.inl h)
  · obtain ⟨x1, x3⟩ := (h6 b hb).mp hx
    obtain ⟨y1, y2⟩ := i1 b hb x1
    rw [hG b hb hx] at hbp ⊢
    obtain ⟨q1, q2, q3⟩ := (ym_nw_t y1 hi).mp hbp
    refine (ym_nw_t y1 hi).mpr ⟨i4 b hb x1 hf p q hp hq ht (fun w => hup (.inl w)) (fun w => huq (.inl w)) hc q1, fun w => huq (.inr w), fun w => ?_⟩
    have hip : i ≠ p := fun e => hup (.inr e.symm)
    have hiq : i ≠ q := fun e => huq (.inr e.symm)
    rw [H.2.2.2 i q hi hq, ← ht.2.2 i hi hzi.1 hip hiq, H.2.2.2 p i hp hi]
    exact q3 w
theorem ym_I_ag (H : ym_H nr J) (hI : ym_I z J Fx sf U o x2 G) {j : Nat} {v : Int} (hj : j < 8) (hxj : zb x2 j = true) (hv : z24 v) (hb : ∀ q, zb v q = true ↔ zb (G (o + j)) q = true ∧ ∀ b : Nat, b < 8 → zb (nr j) b = true → zb x2 b = true → ∃ r : Nat, r < 24 ∧ zb (G (o + b)) r = true ∧ zb (J r) q = true) :
    ym_I z J Fx sf U o x2 (zv_up G (o + j) v) ∧ yc (yc_N nr) (yc_J z J) (yc_ls (zb x2) 8) (yc_R (zv_up G (o + j) v) o) = yc (yc_N nr) (yc_J z J) (yc_ls (zb x2) 8) (yc_R G o) := by
  obtain ⟨i1, i2, i3, i4⟩ := hI
  have sub : ∀ b : Nat, ∀ q, zb (zv_up G (o + j) v (o + b)) q = true → zb (G (o + b)) q = true := fun b q hq => by
    by_cases e : b = j
    · subst e; rw [zv_up_s] at hq; exact ((hb q).mp hq).1
    · rwa [zv_up_n (by omega)] at hq
  refine ⟨⟨fun b hb1 hx => ⟨?_, fun q hq => (i1 b hb1 hx).2 q (sub b q hq)⟩, fun b hb1 hx hf q hq => i2 b hb1 hx hf q (sub b q hq), i3, fun b hb1 hx hf p q hp hq ht hup huq hc hbp => ?_⟩, ?_⟩
  · by_cases e : b = j
    · subst e; rw [zv_up_s]; exact hv
    · rw [zv_up_n (by omega)]; exact (i1 b hb1 hx).1
  · by_cases e : b = j
    · subst e
      rw [zv_up_s] at hbp ⊢
      obtain ⟨c1, c2⟩ := (hb p).mp hbp
      refine (hb q).mpr ⟨i4 b hb1 hx hf p q hp hq ht hup huq hc c1, fun d d1 d2 d3 => ?_⟩
      obtain ⟨r, r1, r2, r3⟩ := c2 d d1 d2 d3
      by_cases er : r = q
      · subst er
        by_cases hfd : Fx d
        · exact absurd (i2 d d1 d3 hfd r r2).symm (hc d d1 hfd).2
        · exact ⟨p, hp, i4 d d1 d3 hfd r p hq hp (ym_tw_s ht) huq hup (fun c c1 c2 => ⟨(hc c c1 c2).2, (hc c c1 c2).1⟩) r2, by rw [H.2.2.2 p r hp hq]; exact r3⟩
      · have erp : r ≠ p := fun e => by
          subst e
          rw [(H.2.2.1 r r1).2] at r3; cases r3
        refine ⟨r, r1, r2, ?_⟩
        rw [H.2.2.2 r q r1 hq, ← ht.2.2 r r1 ((i1 d d1 d3).2 r r2).1 erp er, H.2.2.2 p r hp r1]
        exact r3
    · rw [zv_up_n (by omega)] at hbp ⊢
      exact i4 b hb1 hx hf p q hp hq ht hup huq hc hbp
  · refine yc_prune (yc_N_s H) (yc_J_s H) yc_ls_nd (fun b _ q _ hq => sub b q hq) fun S hS b hbm => ?_
    show zb (zv_up G (o + j) v (o + b)) (S b) = true
    by_cases e : b = j
    · subst e
      rw [zv_up_s]
      refine (hb _).mpr ⟨(hS.1 b hbm).2, fun d d1 d2 d3 => ?_⟩
      have hd : d ∈ yc_ls (zb x2) 8 := yc_ls_mem.mpr ⟨d1, d3⟩
      have hdb : b ≠ d := fun e => by
        subst e
        rw [(H.1 b hj).2.2] at d2; cases d2
      have hw := (hS.2 b hbm d hd hdb).2 (yc_N_t.mpr ⟨hj, d1, d2⟩)
      obtain ⟨w1, w2, -, -, w5⟩ := yc_J_t.mp hw
      exact ⟨S d, w2, (hS.1 d hd).2, by rw [H.2.2.2 _ _ w2 w1]; exact w5⟩
    · rw [zv_up_n (by omega)]
      exact (hS.1 b hbm).2
theorem yc_empty {nr J row : Nat → Nat → Bool} (hn : ∀ a b, nr a b = nr b a) (hJ : ∀ i j, J i j = J j i) {ns : List Nat} (hd : ns.Nodup) {b : Nat} (hb : b ∈ ns) (h : ∀ j, j < 24 → row b j = false) : yc nr J ns row = 0 := by
  by_cases c : 0 < yc nr J ns row
  · obtain ⟨S, h1, -⟩ := yc_pos2 hn hJ hd c
    have := h1 b hb
    rw [h _ this.1] at this
    exact absurd this.2 (by decide)
  · omega
theorem yc_ls_0 {f : Nat → Bool} : ∀ {n : Nat}, (∀ b, b < n → f b = false) → yc_ls f n = []
  | 0, _ => rfl
  | n + 1, h => by
    show cond (f n) (n :: yc_ls f n) (yc_ls f n) = []
    rw [h n (Nat.lt_succ_self n)]
    exact yc_ls_0 fun b hb => h b (by omega)
theorem yc_w_mem {nr J row : Nat → Nat → Bool} {l l2 : List Nat} {S : Nat → Nat} (e : ∀ a, a ∈ l2 → a ∈ l) (h : yc_w nr J row l S) : yc_w nr J row l2 S :=
  ⟨fun a ha => h.1 a (e a ha), fun a ha b hb => h.2 a (e a ha) b (e b hb)⟩
theorem yc_cls {f t : Nat → Bool} {c : Nat → Nat} {c0 : Nat} : ∀ {n : Nat}, (∀ j, j < n → f j = true → t j = true → c j = c0) → ∃ L : Nat, (L : Int) = yn_n (fun j => f j && t j) n ∧ yc_sum (fun j => if f j = true then c j else 0) n = L * c0 + yc_sum (fun j => if (f j && !t j) = true then c j else 0) n
  | 0, _ => ⟨0, rfl, by show 0 = 0 * c0 + 0; omega⟩
  | n + 1, h => by
    obtain ⟨L, e1, e2⟩ := yc_cls (f := f) (t := t) (c := c) (c0 := c0) (n := n) fun j hj => h j (by omega)
    have hs : ∀ g : Nat → Nat, yc_sum g (n + 1) = yc_sum g n + g n := fun _ => rfl
    have hy : ∀ g : Nat → Bool, yn_n g (n + 1) = yn_n g n + (if g n = true then 1 else 0) := fun _ => rfl
    rw [hs, hs, hy, e2]
    by_cases a : f n = true
    · by_cases b : t n = true
      · refine ⟨L + 1, ?_, ?_⟩
        · rw [← e1, a, b, if_pos (by decide)]; omega
        · rw [if_pos a, a, b, if_neg (by decide), h n (Nat.lt_succ_self n) a b, Nat.add_mul, Nat.one_mul]; omega
      · refine ⟨L, ?_, ?_⟩
        · rw [← e1, a, Bool.eq_false_iff.mpr b, if_neg (by decide)]; omega
        · rw [if_pos a, a, Bool.eq_false_iff.mpr b, if_pos (by decide)]; omega
    · refine ⟨L, ?_, ?_⟩
      · rw [← e1, Bool.eq_false_iff.mpr a, Bool.false_and, if_neg (by decide)]; omega
      · rw [if_neg a, Bool.eq_false_iff.mpr a, Bool.false_and, if_neg (by decide)]; omega
theorem yn_one {f : Nat → Bool} {s : Nat} : ∀ n : Nat, (∀ j, j < n → f j = true → j = s) → yn_n f n ≤ 1 ∧ (n ≤ s → yn_n f n = 0)
  | 0, _ => ⟨show (0 : Int) ≤ 1 by decide, fun _ => rfl⟩
  | n + 1, h => by
    have ih := yn_one (f := f) (s := s) n fun j hj => h j (by omega)
    show yn_n f n + (if f n = true then 1 else 0) ≤ 1 ∧ (n + 1 ≤ s → yn_n f n + (if f n = true then 1 else 0) = 0)
    by_cases c : f n = true
    · have := h n (by omega) c
      rw [if_pos c]
      have := ih.2 (by omega)
      exact ⟨by omega, fun _ => by omega⟩
    · rw [if_neg c]
      exact ⟨by omega, fun w => by have := ih.2 (by omega); omega⟩
end YCI
