/-! How many ways: counting maps of names to stars, in any order of the names. -/
def yc_sum (f : Nat → Nat) : Nat → Nat
  | 0 => 0
  | k + 1 => yc_sum f k + f k
theorem yc_sum_cg {f g : Nat → Nat} : ∀ {k : Nat}, (∀ i, i < k → f i = g i) → yc_sum f k = yc_sum g k
  | 0, _ => rfl
  | k + 1, h => by
    show yc_sum f k + f k = yc_sum g k + g k
    rw [yc_sum_cg fun i hi => h i (by omega), h k (by omega)]
theorem yc_sum_add {f g : Nat → Nat} : ∀ k : Nat, yc_sum (fun i => f i + g i) k = yc_sum f k + yc_sum g k
  | 0 => rfl
  | k + 1 => by
    show yc_sum (fun i => f i + g i) k + (f k + g k) = yc_sum f k + f k + (yc_sum g k + g k)
    rw [yc_sum_add k]; omega
theorem yc_sum_0 : ∀ k : Nat, yc_sum (fun _ => 0) k = 0
  | 0 => rfl
  | k + 1 => by
    show yc_sum (fun _ => 0) k + 0 = 0
    rw [yc_sum_0 k]
theorem yc_sum_swap {f : Nat → Nat → Nat} {m : Nat} : ∀ k : Nat, yc_sum (fun i => yc_sum (fun j => f i j) m) k = yc_sum (fun j => yc_sum (fun i => f i j) k) m
  | 0 => (yc_sum_0 m).symm
  | k + 1 => by
    show yc_sum (fun i => yc_sum (fun j => f i j) m) k + yc_sum (fun j => f k j) m = yc_sum (fun j => yc_sum (fun i => f i j) k + f k j) m
    rw [yc_sum_swap k, yc_sum_add m]
theorem yc_sum_if {b : Bool} {f : Nat → Nat} {k : Nat} : (if b = true then yc_sum f k else 0) = yc_sum (fun i => if b = true then f i else 0) k := by
  cases b with
  | true => rfl
  | false => exact (yc_sum_0 k).symm
/-- what is left when a name is a star -/
def yc_nw (nr J row : Nat → Nat → Bool) (a i : Nat) : Nat → Nat → Bool := fun b j => row b j && (!(Nat.beq j i) && (!(nr a b) || J i j))
def yc (nr J : Nat → Nat → Bool) : List Nat → (Nat → Nat → Bool) → Nat
  | [], _ => 1
  | a :: ns, row => yc_sum (fun i => if row a i = true then yc nr J ns (yc_nw nr J row a i) else 0) 24
section YCNT
variable {nr J row row2 : Nat → Nat → Bool}
theorem yc_cg : ∀ {ns : List Nat} {row row2 : Nat → Nat → Bool}, (∀ b ∈ ns, ∀ j, j < 24 → row b j = row2 b j) → yc nr J ns row = yc nr J ns row2
  | [], _, _, _ => rfl
  | a :: ns, row, row2, h => by
    refine yc_sum_cg fun i hi => ?_
    rw [h a List.mem_cons_self i hi]
    by_cases c : row2 a i = true
    · rw [if_pos c, if_pos c]
      refine yc_cg fun b hb j hj => ?_
      unfold yc_nw
      rw [h b (List.mem_cons_of_mem _ hb) j hj]
    · rw [if_neg c, if_neg c]
theorem yc_2 {a b : Nat} {ns : List Nat} : yc nr J (a :: b :: ns) row = yc_sum (fun i => yc_sum (fun j => if (row a i && yc_nw nr J row a i b j) = true then yc nr J ns (yc_nw nr J (yc_nw nr J row a i) b j) else 0) 24) 24 := by
  refine yc_sum_cg fun i hi => ?_
  show (if row a i = true then yc_sum (fun j => if yc_nw nr J row a i b j = true then yc nr J ns (yc_nw nr J (yc_nw nr J row a i) b j) else 0) 24 else 0) = _
  rw [yc_sum_if]
  refine yc_sum_cg fun j hj => ?_
  cases row a i <;> rfl
theorem yc_swap (hn : ∀ a b, nr a b = nr b a) (hJ : ∀ i j, J i j = J j i) {a b : Nat} {ns : List Nat} : yc nr J (a :: b :: ns) row = yc nr J (b :: a :: ns) row := by
  rw [yc_2, yc_2, yc_sum_swap]
  refine yc_sum_cg fun j hj => yc_sum_cg fun i hi => ?_
  have e : (row a i && yc_nw nr J row a i b j) = (row b j && yc_nw nr J row b j a i) := by
    unfold yc_nw
    rw [hn b a, hJ j i, show Nat.beq j i = Nat.beq i j from by rw [Bool.eq_iff_iff, Nat.beq_eq, Nat.beq_eq]; exact eq_comm]
    cases row a i <;> cases row b j <;> rfl
  rw [e]
  by_cases c : (row b j && yc_nw nr J row b j a i) = true
  · rw [if_pos c, if_pos c]
    refine yc_cg fun d hd k hk => ?_
    unfold yc_nw
    cases row d k <;> cases Nat.beq k i <;> cases Nat.beq k j <;> cases nr a d <;> cases nr b d <;> cases J i k <;> cases J j k <;> rfl
  · rw [if_neg c, if_neg c]
theorem yc_front (hn : ∀ a b, nr a b = nr b a) (hJ : ∀ i j, J i j = J j i) {a : Nat} : ∀ {ns : List Nat} {row : Nat → Nat → Bool}, a ∈ ns → yc nr J ns row = yc nr J (a :: ns.erase a) row
  | b :: ns, row, h => by
    by_cases e : b = a
    · subst e; rw [List.erase_cons_head]
    · have hm : a ∈ ns := by
        rcases List.mem_cons.mp h with h | h
        · exact absurd h.symm e
        · exact h
      rw [List.erase_cons_tail (by simpa using e), ← yc_swap hn hJ]
      refine yc_sum_cg fun i hi => ?_
      rw [yc_front hn hJ hm]
/-- stars given anew -/
theorem yc_ren {π : Nat → Nat} (hp : ∀ i, i < 24 → π i < 24) (hpp : ∀ i, π (π i) = i) (hJ : ∀ i j, i < 24 → j < 24 → J (π i) (π j) = J i j) (hs : ∀ f : Nat → Nat, yc_sum (fun i => f (π i)) 24 = yc_sum f 24) : ∀ {ns : List Nat} {row : Nat → Nat → Bool}, yc nr J ns (fun b j => row b (π j)) = yc nr J ns row
  | [], _ => rfl
  | a :: ns, row => by
    show yc_sum (fun i => if row a (π i) = true then yc nr J ns (yc_nw nr J (fun b j => row b (π j)) a i) else 0) 24 = yc_sum (fun i => if row a i = true then yc nr J ns (yc_nw nr J row a i) else 0) 24
    rw [← hs (fun i => if row a i = true then yc nr J ns (yc_nw nr J row a i) else 0)]
    refine yc_sum_cg fun i hi => ?_
    show _ = if row a (π i) = true then yc nr J ns (yc_nw nr J row a (π i)) else 0
    by_cases c : row a (π i) = true
    · rw [if_pos c, if_pos c, ← yc_ren hp hpp hJ hs (row := yc_nw nr J row a (π i))]
      refine yc_cg fun b hb j hj => ?_
      unfold yc_nw
      rw [hJ i j hi hj]
      have : Nat.beq (π j) (π i) = Nat.beq j i := by
        rw [Bool.eq_iff_iff, Nat.beq_eq, Nat.beq_eq]
        exact ⟨fun e => by rw [← hpp j, e, hpp], fun e => by rw [e]⟩
      rw [this]
    · rw [if_neg c, if_neg c]
end YCNT
theorem yc_sum_up {f : Nat → Nat} {i v : Nat} : ∀ {n : Nat}, i < n → yc_sum (fun j => if j = i then v else f j) n + f i = yc_sum f n + v
  | n + 1, h => by
    show yc_sum (fun j => if j = i then v else f j) n + (if n = i then v else f n) + f i = yc_sum f n + f n + v
    by_cases e : n = i
    · subst e
      rw [if_pos rfl, yc_sum_cg (f := fun j => if j = n then v else f j) (g := f) fun j hj => if_neg (by omega)]
      omega
    · have := yc_sum_up (f := f) (v := v) (show i < n by omega)
      rw [if_neg e]
      omega
def yc_tr (i k j : Nat) : Nat := if j = i then k else if j = k then i else j
theorem yc_tr_tr {i k j : Nat} : yc_tr i k (yc_tr i k j) = j := by
  unfold yc_tr
  (repeat' split) <;> omega
theorem yc_tr_lt {i k j n : Nat} (hi : i < n) (hk : k < n) (hj : j < n) : yc_tr i k j < n := by
  unfold yc_tr
  (repeat' split) <;> omega
theorem yc_sum_tr {f : Nat → Nat} {i k n : Nat} (hi : i < n) (hk : k < n) : yc_sum (fun j => f (yc_tr i k j)) n = yc_sum f n := by
  by_cases e : i = k
  · subst e
    refine yc_sum_cg fun j _ => ?_
    have : yc_tr i i j = j := by unfold yc_tr; (repeat' split) <;> omega
    rw [this]
  · have h1 := yc_sum_up (f := f) (v := f k) hi
    have h2 := yc_sum_up (f := fun j => if j = i then f k else f j) (v := f i) hk
    have e2 : (if k = i then f k else f k) = f k := by split <;> rfl
    have h3 : yc_sum (fun j => f (yc_tr i k j)) n = yc_sum (fun j => if j = k then f i else if j = i then f k else f j) n := yc_sum_cg fun j _ => by
      unfold yc_tr
      by_cases a : j = i
      · rw [if_pos a, if_neg (show ¬ j = k by omega), if_pos a]
      · by_cases b : j = k
        · rw [if_neg a, if_pos b, if_pos b]
        · rw [if_neg a, if_neg b, if_neg b, if_neg a]
    rw [h3]
    have h2 : yc_sum (fun j => if j = k then f i else if j = i then f k else f j) n + (if k = i then f k else f k) = yc_sum (fun j => if j = i then f k else f j) n + f i := h2
    rw [e2] at h2
    omega
/-- twins: the same lines but to each other -/
def yc_tw (J : Nat → Nat → Bool) (i k : Nat) : Prop := ∀ x, x < 24 → x ≠ i → x ≠ k → J i x = J k x
theorem yc_tw_J {J : Nat → Nat → Bool} (hJ : ∀ i j, J i j = J j i) (hx : ∀ i, J i i = false) {i k : Nat} (h : yc_tw J i k) : ∀ x y, x < 24 → y < 24 → J (yc_tr i k x) (yc_tr i k y) = J x y := by
  intro x y hx0 hy0
  unfold yc_tr
  by_cases a : x = i
  · rw [if_pos a]
    by_cases b : y = i
    · rw [if_pos b, a, b, hx, hx]
    · rw [if_neg b]
      by_cases c : y = k
      · rw [if_pos c, a, c, hJ]
      · rw [if_neg c, a]; exact (h y hy0 b c).symm
  · rw [if_neg a]
    by_cases a2 : x = k
    · rw [if_pos a2]
      by_cases b : y = i
      · rw [if_pos b, a2, b, hJ]
      · rw [if_neg b]
        by_cases c : y = k
        · rw [if_pos c, a2, c, hx, hx]
        · rw [if_neg c, a2]; exact h y hy0 b c
    · rw [if_neg a2]
      by_cases b : y = i
      · rw [if_pos b, b, hJ x k, hJ x i]; exact (h x hx0 a a2).symm
      · rw [if_neg b]
        by_cases c : y = k
        · rw [if_pos c, c, hJ x i, hJ x k]; exact h x hx0 a a2
        · rw [if_neg c]
theorem yc_twin {nr J row : Nat → Nat → Bool} (hJ : ∀ i j, J i j = J j i) (hx : ∀ i, J i i = false) {i k a : Nat} (hi : i < 24) (hk : k < 24) (h : yc_tw J i k) {ns : List Nat} (hr : ∀ b ∈ ns, row b i = row b k) : yc nr J ns (yc_nw nr J row a k) = yc nr J ns (yc_nw nr J row a i) := by
  rw [← yc_ren (π := yc_tr i k) (fun j hj => yc_tr_lt hi hk hj) (fun j => yc_tr_tr) (yc_tw_J hJ hx h) (fun f => yc_sum_tr hi hk) (row := yc_nw nr J row a k)]
  refine yc_cg fun b hb j hj => ?_
  have e1 : row b (yc_tr i k j) = row b j := by
    unfold yc_tr
    by_cases c : j = i
    · rw [if_pos c, c, hr b hb]
    · rw [if_neg c]
      by_cases d : j = k
      · rw [if_pos d, d, hr b hb]
      · rw [if_neg d]
  have e2 : Nat.beq (yc_tr i k j) k = Nat.beq j i := by
    rw [Bool.eq_iff_iff, Nat.beq_eq, Nat.beq_eq]
    unfold yc_tr
    (repeat' split) <;> omega
  have e3 : J k (yc_tr i k j) = J i j := by
    have := yc_tw_J hJ hx h i j hi hj
    rw [← this]
    unfold yc_tr
    rw [if_pos rfl]
  unfold yc_nw
  rw [e1, e2, e3]
