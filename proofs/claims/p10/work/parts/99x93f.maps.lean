/-! Maps of names to stars: when there is one, what may be left out, how many stars it wants. -/
def yc_w (nr J row : Nat → Nat → Bool) (ns : List Nat) (S : Nat → Nat) : Prop :=
  (∀ a ∈ ns, S a < 24 ∧ row a (S a) = true) ∧ ∀ a ∈ ns, ∀ b ∈ ns, a ≠ b → S a ≠ S b ∧ (nr a b = true → J (S a) (S b) = true)
theorem yc_nw_t {nr J row : Nat → Nat → Bool} {a i b j : Nat} : yc_nw nr J row a i b j = true ↔ row b j = true ∧ j ≠ i ∧ (nr a b = true → J i j = true) := by
  unfold yc_nw
  have e : (!(Nat.beq j i)) = true ↔ j ≠ i := by
    constructor
    · intro h w
      subst w
      rw [Nat.beq_refl] at h
      exact absurd h (by decide)
    · intro h
      rw [Bool.not_eq_true', Bool.eq_false_iff]
      exact fun w => h (Nat.eq_of_beq_eq_true w)
  rw [Bool.and_eq_true, Bool.and_eq_true, e]
  cases nr a b <;> cases J i j <;> simp
theorem yc_sum_pos {f : Nat → Nat} {i : Nat} : ∀ {n : Nat}, i < n → 0 < f i → 0 < yc_sum f n
  | n + 1, h, h2 => by
    show 0 < yc_sum f n + f n
    by_cases e : i = n
    · subst e; omega
    · have := yc_sum_pos (show i < n by omega) h2
      omega
theorem yc_sum_ex {f : Nat → Nat} : ∀ {n : Nat}, 0 < yc_sum f n → ∃ i, i < n ∧ 0 < f i
  | 0, h => absurd h (Nat.lt_irrefl 0)
  | n + 1, h => by
    have h : 0 < yc_sum f n + f n := h
    by_cases e : 0 < f n
    · exact ⟨n, Nat.lt_succ_self n, e⟩
    · obtain ⟨i, i1, i2⟩ := yc_sum_ex (f := f) (n := n) (by omega)
      exact ⟨i, by omega, i2⟩
theorem yc_w_cg {nr J row : Nat → Nat → Bool} {ns : List Nat} {S S2 : Nat → Nat} (e : ∀ b ∈ ns, S b = S2 b) (h : yc_w nr J row ns S) : yc_w nr J row ns S2 := by
  refine ⟨fun a ha => ?_, fun a ha b hb hab => ?_⟩
  · rw [← e a ha]; exact h.1 a ha
  · rw [← e a ha, ← e b hb]; exact h.2 a ha b hb hab
theorem yc_w_row {nr J row row2 : Nat → Nat → Bool} {ns : List Nat} {S : Nat → Nat} (h : yc_w nr J row ns S) (e : ∀ b ∈ ns, row2 b (S b) = true) : yc_w nr J row2 ns S :=
  ⟨fun a ha => ⟨(h.1 a ha).1, e a ha⟩, h.2⟩
theorem yc_w_cons {nr J row : Nat → Nat → Bool} (hn : ∀ a b, nr a b = nr b a) (hJ : ∀ i j, J i j = J j i) {a : Nat} {ns : List Nat} {S : Nat → Nat} (ha : a ∉ ns) : yc_w nr J row (a :: ns) S ↔ S a < 24 ∧ row a (S a) = true ∧ yc_w nr J (yc_nw nr J row a (S a)) ns S := by
  constructor
  · intro h
    have h0 := h.1 a List.mem_cons_self
    refine ⟨h0.1, h0.2, fun b hb => ?_, fun b hb c hc hbc => h.2 b (List.mem_cons_of_mem _ hb) c (List.mem_cons_of_mem _ hc) hbc⟩
    have hab : a ≠ b := fun e => ha (by rw [e]; exact hb)
    have h1 := h.1 b (List.mem_cons_of_mem _ hb)
    have h2 := h.2 a List.mem_cons_self b (List.mem_cons_of_mem _ hb) hab
    exact ⟨h1.1, yc_nw_t.mpr ⟨h1.2, fun e => h2.1 e.symm, h2.2⟩⟩
  · rintro ⟨h1, h2, h3, h4⟩
    have hx : ∀ b ∈ ns, S a ≠ S b ∧ (nr a b = true → J (S a) (S b) = true) := fun b hb => by
      have q := yc_nw_t.mp (h3 b hb).2
      exact ⟨fun e => q.2.1 e.symm, q.2.2⟩
    refine ⟨fun b hb => ?_, fun b hb c hc hbc => ?_⟩
    · rcases List.mem_cons.mp hb with e | hb
      · rw [e]; exact ⟨h1, h2⟩
      · exact ⟨(h3 b hb).1, (yc_nw_t.mp (h3 b hb).2).1⟩
    · rcases List.mem_cons.mp hb with e | hb
      · rcases List.mem_cons.mp hc with e2 | hc
        · exact absurd (e.trans e2.symm) hbc
        · rw [e]; exact hx c hc
      · rcases List.mem_cons.mp hc with e2 | hc
        · rw [e2]
          have q := hx b hb
          exact ⟨fun w => q.1 w.symm, fun w => by rw [hJ]; exact q.2 (by rw [hn]; exact w)⟩
        · exact h4 b hb c hc hbc
theorem yc_upd (S : Nat → Nat) (a i : Nat) : ∃ S2 : Nat → Nat, S2 a = i ∧ ∀ b, b ≠ a → S2 b = S b := ⟨fun b => if b = a then i else S b, if_pos rfl, fun b hb => if_neg hb⟩
theorem yc_pos1 {nr J : Nat → Nat → Bool} (hn : ∀ a b, nr a b = nr b a) (hJ : ∀ i j, J i j = J j i) : ∀ {ns : List Nat} {row : Nat → Nat → Bool} {S : Nat → Nat}, ns.Nodup → yc_w nr J row ns S → 0 < yc nr J ns row
  | [], _, _, _, _ => Nat.one_pos
  | a :: ns, row, S, hd, h => by
    obtain ⟨d1, d2⟩ := List.nodup_cons.mp hd
    obtain ⟨h1, h2, h3⟩ := (yc_w_cons hn hJ d1).mp h
    show 0 < yc_sum (fun i => if row a i = true then yc nr J ns (yc_nw nr J row a i) else 0) 24
    refine yc_sum_pos h1 ?_
    show 0 < if row a (S a) = true then yc nr J ns (yc_nw nr J row a (S a)) else 0
    rw [if_pos h2]
    exact yc_pos1 hn hJ d2 h3
theorem yc_pos2 {nr J : Nat → Nat → Bool} (hn : ∀ a b, nr a b = nr b a) (hJ : ∀ i j, J i j = J j i) : ∀ {ns : List Nat} {row : Nat → Nat → Bool}, ns.Nodup → 0 < yc nr J ns row → ∃ S, yc_w nr J row ns S
  | [], _, _, _ => ⟨fun _ => 0, fun a ha => (by cases ha), fun a ha => (by cases ha)⟩
  | a :: ns, row, hd, h => by
    obtain ⟨d1, d2⟩ := List.nodup_cons.mp hd
    obtain ⟨i, i1, i2⟩ := yc_sum_ex (f := fun i => if row a i = true then yc nr J ns (yc_nw nr J row a i) else 0) h
    have i2 : 0 < if row a i = true then yc nr J ns (yc_nw nr J row a i) else 0 := i2
    by_cases c : row a i = true
    · rw [if_pos c] at i2
      obtain ⟨S, hS⟩ := yc_pos2 hn hJ d2 i2
      obtain ⟨S2, ea, eb⟩ := yc_upd S a i
      refine ⟨S2, (yc_w_cons hn hJ d1).mpr ?_⟩
      rw [ea]
      exact ⟨i1, c, yc_w_cg (fun b hb => (eb b fun e => d1 (by rw [← e]; exact hb)).symm) hS⟩
    · rw [if_neg c] at i2
      exact absurd i2 (Nat.lt_irrefl 0)
/-- what no way has may be left out -/
theorem yc_prune {nr J : Nat → Nat → Bool} (hn : ∀ a b, nr a b = nr b a) (hJ : ∀ i j, J i j = J j i) : ∀ {ns : List Nat} {row row2 : Nat → Nat → Bool}, ns.Nodup → (∀ b ∈ ns, ∀ j, j < 24 → row2 b j = true → row b j = true) → (∀ S, yc_w nr J row ns S → ∀ b ∈ ns, row2 b (S b) = true) → yc nr J ns row2 = yc nr J ns row
  | [], _, _, _, _, _ => rfl
  | a :: ns, row, row2, hd, h1, h2 => by
    obtain ⟨d1, d2⟩ := List.nodup_cons.mp hd
    have up : ∀ i, i < 24 → row a i = true → ∀ S, yc_w nr J (yc_nw nr J row a i) ns S → row2 a i = true ∧ ∀ b ∈ ns, row2 b (S b) = true := fun i i1 hi S hS => by
      obtain ⟨S2, ea, eb⟩ := yc_upd S a i
      have hw : yc_w nr J row (a :: ns) S2 := (yc_w_cons hn hJ d1).mpr (by
        rw [ea]
        exact ⟨i1, hi, yc_w_cg (fun b hb => (eb b fun e => d1 (by rw [← e]; exact hb)).symm) hS⟩)
      refine ⟨?_, fun b hb => ?_⟩
      · have := h2 _ hw a List.mem_cons_self
        rwa [ea] at this
      · have := h2 _ hw b (List.mem_cons_of_mem _ hb)
        rwa [eb b fun e => d1 (by rw [← e]; exact hb)] at this
    refine yc_sum_cg fun i hi => ?_
    by_cases c2 : row2 a i = true
    · have c := h1 a List.mem_cons_self i hi c2
      rw [if_pos c2, if_pos c]
      refine yc_prune hn hJ d2 (fun b hb j hj hr => ?_) fun S hS b hb => ?_
      · have q := yc_nw_t.mp hr
        exact yc_nw_t.mpr ⟨h1 b (List.mem_cons_of_mem _ hb) j hj q.1, q.2⟩
      · have q := yc_nw_t.mp (hS.1 b hb).2
        exact yc_nw_t.mpr ⟨(up i hi c S hS).2 b hb, q.2⟩
    · rw [if_neg c2]
      by_cases c : row a i = true
      · rw [if_pos c]
        by_cases z : 0 < yc nr J ns (yc_nw nr J row a i)
        · obtain ⟨S, hS⟩ := yc_pos2 hn hJ d2 z
          exact absurd (up i hi c S hS).1 c2
        · omega
      · rw [if_neg c]
/-- the order of the names is for nothing -/
theorem yc_set {nr J : Nat → Nat → Bool} (hn : ∀ a b, nr a b = nr b a) (hJ : ∀ i j, J i j = J j i) : ∀ {l l2 : List Nat} {row : Nat → Nat → Bool}, l.Nodup → l2.Nodup → (∀ a, a ∈ l ↔ a ∈ l2) → yc nr J l row = yc nr J l2 row
  | [], l2, _, _, _, h => by
    cases l2 with
    | nil => rfl
    | cons b l2 => exact absurd ((h b).mpr List.mem_cons_self) (by intro w; cases w)
  | a :: l, l2, row, d1, d2, h => by
    obtain ⟨e1, e2⟩ := List.nodup_cons.mp d1
    rw [yc_front hn hJ ((h a).mp List.mem_cons_self)]
    refine yc_sum_cg fun i hi => ?_
    rw [yc_set hn hJ (l2 := l2.erase a) e2 (d2.erase a) fun b => ?_]
    rw [d2.mem_erase_iff]
    constructor
    · intro hb
      exact ⟨fun e => e1 (by rw [← e]; exact hb), (h b).mp (List.mem_cons_of_mem _ hb)⟩
    · rintro ⟨n1, hb⟩
      rcases List.mem_cons.mp ((h b).mpr hb) with e | hb
      · exact absurd e n1
      · exact hb
/-- names from a set -/
def yc_ls (f : Nat → Bool) : Nat → List Nat
  | 0 => []
  | n + 1 => cond (f n) (n :: yc_ls f n) (yc_ls f n)
theorem yc_ls_mem {f : Nat → Bool} {a : Nat} : ∀ {n : Nat}, a ∈ yc_ls f n ↔ a < n ∧ f a = true
  | 0 => ⟨fun h => (by cases h), fun h => absurd h.1 (Nat.not_lt_zero a)⟩
  | n + 1 => by
    have ih := yc_ls_mem (f := f) (a := a) (n := n)
    show a ∈ cond (f n) (n :: yc_ls f n) (yc_ls f n) ↔ _
    cases e : f n with
    | true =>
      show a ∈ n :: yc_ls f n ↔ _
      rw [List.mem_cons, ih]
      constructor
      · rintro (h | h)
        · subst h; exact ⟨Nat.lt_succ_self a, e⟩
        · exact ⟨by omega, h.2⟩
      · rintro ⟨h1, h2⟩
        by_cases w : a = n
        · exact .inl w
        · exact .inr ⟨by omega, h2⟩
    | false =>
      show a ∈ yc_ls f n ↔ _
      rw [ih]
      constructor
      · rintro ⟨h1, h2⟩; exact ⟨by omega, h2⟩
      · rintro ⟨h1, h2⟩
        refine ⟨?_, h2⟩
        by_cases w : a = n
        · subst w; rw [h2] at e; cases e
        · omega
theorem yc_ls_nd {f : Nat → Bool} : ∀ {n : Nat}, (yc_ls f n).Nodup
  | 0 => List.nodup_nil
  | n + 1 => by
    show (cond (f n) (n :: yc_ls f n) (yc_ls f n)).Nodup
    cases f n with
    | true => exact List.nodup_cons.mpr ⟨fun h => absurd (yc_ls_mem.mp h).1 (Nat.lt_irrefl n), yc_ls_nd⟩
    | false => exact yc_ls_nd
theorem yc_ls_len {f : Nat → Bool} : ∀ {n : Nat}, ((yc_ls f n).length : Int) = yn_n f n
  | 0 => rfl
  | n + 1 => by
    show ((cond (f n) (n :: yc_ls f n) (yc_ls f n)).length : Int) = yn_n f n + (if f n = true then 1 else 0)
    have ih := yc_ls_len (f := f) (n := n)
    cases f n with
    | true =>
      show (((yc_ls f n).length + 1 : Nat) : Int) = yn_n f n + 1
      omega
    | false =>
      show ((yc_ls f n).length : Int) = yn_n f n + 0
      omega
/-- as many stars as names -/
theorem yc_pig {S : Nat → Nat} : ∀ {ns : List Nat} {z : Nat → Bool}, ns.Nodup → (∀ a ∈ ns, S a < 24 ∧ z (S a) = true) → (∀ a ∈ ns, ∀ b ∈ ns, a ≠ b → S a ≠ S b) → (ns.length : Int) ≤ yn_n z 24
  | [], z, _, _, _ => (yn_in 24).1
  | a :: ns, z, hd, h1, h2 => by
    obtain ⟨d1, d2⟩ := List.nodup_cons.mp hd
    have ha := h1 a List.mem_cons_self
    have hz : yn_n z 24 = yn_n (fun j => z j && !Nat.beq j (S a)) 24 + 1 := yn_add (k := S a) (by
      show (z (S a) && !Nat.beq (S a) (S a)) = false
      rw [Nat.beq_refl, Bool.not_true, Bool.and_false]) ha.2 24 ha.1 fun j _ hj => by
      show (z j && !Nat.beq j (S a)) = z j
      have : Nat.beq j (S a) = false := Bool.eq_false_iff.mpr fun w => hj (Nat.eq_of_beq_eq_true w)
      rw [this, Bool.not_false, Bool.and_true]
    have ih := yc_pig (S := S) (z := fun j => z j && !Nat.beq j (S a)) d2 (fun b hb => by
      have hb1 := h1 b (List.mem_cons_of_mem _ hb)
      refine ⟨hb1.1, ?_⟩
      show (z (S b) && !Nat.beq (S b) (S a)) = true
      have : Nat.beq (S b) (S a) = false := Bool.eq_false_iff.mpr fun w => h2 a List.mem_cons_self b (List.mem_cons_of_mem _ hb) (fun e => d1 (by rw [e]; exact hb)) (Nat.eq_of_beq_eq_true w).symm
      rw [this, hb1.2]; rfl) fun b hb c hc => h2 b (List.mem_cons_of_mem _ hb) c (List.mem_cons_of_mem _ hc)
    rw [hz, List.length_cons]
    omega
/-- more names than stars: no way -/
theorem yc_few {nr J : Nat → Nat → Bool} (hn : ∀ a b, nr a b = nr b a) (hJ : ∀ i j, J i j = J j i) {ns : List Nat} {row : Nat → Nat → Bool} {z : Nat → Bool} (hd : ns.Nodup) (hz : ∀ b ∈ ns, ∀ j, row b j = true → z j = true) (h : yn_n z 24 < ns.length) : yc nr J ns row = 0 := by
  by_cases c : 0 < yc nr J ns row
  · obtain ⟨S, h1, h2⟩ := yc_pos2 hn hJ hd c
    have := yc_pig (S := S) (z := z) hd (fun a ha => ⟨(h1 a ha).1, hz a ha _ (h1 a ha).2⟩) fun a ha b hb hab => (h2 a ha b hb hab).1
    omega
  · omega
/-- a star of a way has as many lines as its name -/
theorem yc_legs {nr J row : Nat → Nat → Bool} {ns : List Nat} {S : Nat → Nat} {z : Nat → Bool} (hz : ∀ b ∈ ns, ∀ j, row b j = true → z j = true) (h : yc_w nr J row ns S) {a : Nat} (ha : a ∈ ns) {f : Nat → Bool} {n : Nat} (hf : ∀ b, b < n → f b = true → b ∈ ns ∧ b ≠ a ∧ nr a b = true) : yn_n f n ≤ yn_n (fun j => J (S a) j && z j) 24 := by
  rw [← yc_ls_len]
  refine yc_pig (S := S) yc_ls_nd (fun b hb => ?_) fun b hb c hc hbc => ?_
  · obtain ⟨b1, b2⟩ := yc_ls_mem.mp hb
    obtain ⟨c1, c2, c3⟩ := hf b b1 b2
    refine ⟨(h.1 b c1).1, ?_⟩
    show (J (S a) (S b) && z (S b)) = true
    rw [(h.2 a ha b c1 fun e => c2 e.symm).2 c3, hz b c1 _ (h.1 b c1).2]; rfl
  · obtain ⟨b1, b2⟩ := yc_ls_mem.mp hb
    obtain ⟨c1, c2⟩ := yc_ls_mem.mp hc
    exact (h.2 b (hf b b1 b2).1 c (hf c c1 c2).1 hbc).1
