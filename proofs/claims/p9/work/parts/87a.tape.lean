/-! The tape: bytes of a number. -/
section YTA
theorem zi_ofev {op : Int32 → Int32 → Int32} {a b : Int} : Int32.ofInt (zi_ev op a b) = op (Int32.ofInt a) (Int32.ofInt b) := by
  unfold zi_ev; exact Int32.ofInt_toInt _
theorem zb_by {a : Int} {j : Nat} (hj : j < 8) : zb (zi_by a) j = zb a j := by
  unfold zb zi_by
  rw [Int32.ofInt_toInt]
  simp only [Int32.toBitVec_toInt8, Int8.toBitVec_toInt32, BitVec.getLsbD_signExtend, BitVec.getLsbD_setWidth]
  simp [hj, show j < 32 by omega]
theorem zb_255 {j : Nat} : zb 255 j = decide (j < 8) := by
  by_cases h : j < 32
  · have : ∀ k : Nat, k < 32 → zb 255 k = decide (k < 8) := by decide +kernel
    exact this j h
  · rw [zb_ge (by omega), decide_eq_false (by omega)]
theorem zb_shr {x i : Int} {j : Nat} (k1 : 0 ≤ i) (k2 : i < 32) (hj : j + i.toNat < 32) : zb (zi_shr x i) j = zb x (j + i.toNat) := by
  unfold zi_shr
  rw [zb_ev]
  show ((Int32.ofInt x).toBitVec.sshiftRight' ((Int32.ofInt i &&& 31).toBitVec.smod 32)).getLsbD j = _
  unfold BitVec.sshiftRight'
  rw [zi_amt k1 k2, BitVec.getLsbD_sshiftRight, if_pos (by omega)]
  rw [show decide (32 ≤ j) = false from decide_eq_false (by omega), Nat.add_comm j]
  rfl
theorem zb_ush {x i : Int} {j : Nat} (k1 : 0 ≤ i) (k2 : i < 32) : zb (zi_ush x i) j = zb x (j + i.toNat) := by
  have hd : ∀ k : Nat, k < 32 → (((Int32.ofInt (k : Int)).toUInt32 &&& Int32.toUInt32 31).toBitVec % 32).toNat = k := by decide +kernel
  have hk := hd i.toNat (by omega)
  rw [Int.toNat_of_nonneg k1] at hk
  unfold zi_ush
  rw [zb_ev]
  show ((Int32.ofInt x).toBitVec >>> (((Int32.ofInt i).toUInt32 &&& Int32.toUInt32 31).toBitVec % 32)).getLsbD j = _
  rw [BitVec.ushiftRight_eq', hk, BitVec.getLsbD_ushiftRight, Nat.add_comm j]
  rfl
theorem zb_shln {x i : Int} {j : Nat} (k1 : 0 ≤ i) (k2 : i < 32) (hj : j < 32) : zb (zi_shl x i) j = (!decide (j < i.toNat) && zb x (j - i.toNat)) := by
  unfold zi_shl
  rw [zb_ev]
  show ((Int32.ofInt x).toBitVec <<< ((Int32.ofInt i &&& 31).toBitVec.smod 32)).getLsbD j = _
  rw [BitVec.shiftLeft_eq', zi_amt k1 k2, BitVec.getLsbD_shiftLeft, decide_eq_true hj, Bool.true_and]
  rfl
theorem zi_255 {a : Int} : 0 ≤ zi_and a 255 ∧ zi_and a 255 ≤ 255 := by
  have h : z24 (zi_and a 255) := z24_and2 ⟨by decide, by decide⟩
  refine ⟨h.1, ?_⟩
  have h2 := h.2
  by_cases hh : zi_and a 255 ≤ 255
  · exact hh
  have e : zi_and a 255 = ((zi_and a 255) % 256) := by
    have m1 : 0 ≤ zi_and a 255 % 256 := by omega
    refine z24_ext h ⟨m1, by omega⟩ fun j hj => ?_
    rw [zb_tb (by omega) (by omega), zb_tb (t := zi_and a 255 % 256) m1 (by omega)]
    have e2 : (zi_and a 255 % 256).toNat = (zi_and a 255).toNat % 2 ^ 8 := by omega
    rw [e2, Nat.testBit_mod_two_pow, ← zb_tb h.1 (by omega)]
    by_cases q : j < 8
    · rw [decide_eq_true q, Bool.true_and]
    · rw [decide_eq_false q, Bool.false_and, zb_and, zb_255, decide_eq_false q, Bool.and_false]
  omega
theorem zi_byte {x k : Int} (k1 : 0 ≤ k) (k2 : k ≤ 24) : zi_and (zi_by (zi_by (zi_shr x k))) 255 = zi_and (zi_ush x k) 255 := by
  have a := zi_255 (a := zi_by (zi_by (zi_shr x k)))
  have b := zi_255 (a := zi_ush x k)
  refine zb_ext (by omega) (by omega) (by omega) (by omega) fun j hj => ?_
  rw [zb_and, zb_and, zb_255]
  by_cases q : j < 8
  · rw [zb_by q, zb_by q, zb_shr k1 (by omega) (by omega), zb_ush k1 (by omega)]
  · rw [decide_eq_false q, Bool.and_false, Bool.and_false]
theorem yt_num_l {x : Int} : ∀ (d : Nat) (i n : Int) (T M : Int → Int) (f f2 : Nat), i + 1 = d → d ≤ 4 → n + d ≤ 220 → 0 ≤ n → d < f → d < f2 → yk_T T M →
    ∃ T' M', zf_Tape_addNumber_l0 x f (8 * i) n T = some (n + d, T') ∧ zf_M_types_l0 x f2 i n M = some (n + d, M') ∧ yk_T T' M' := by
  intro d
  induction d with
  | zero =>
    intro i n T M f f2 e _ _ _ hf hf2 hT
    obtain ⟨f, rfl⟩ : ∃ q, f = q + 1 := ⟨f - 1, by omega⟩
    obtain ⟨f2, rfl⟩ : ∃ q, f2 = q + 1 := ⟨f2 - 1, by omega⟩
    refine ⟨T, M, ?_, ?_, hT⟩
    · show zf_Tape_addNumber_l0_b x (zf_Tape_addNumber_l0 x f) (8 * i) n T = _
      unfold zf_Tape_addNumber_l0_b
      rw [if_pos (by omega)]
      simp
    · show zf_M_types_l0_b x (zf_M_types_l0 x f2) i n M = _
      unfold zf_M_types_l0_b
      rw [if_pos (by omega)]
      simp
  | succ d ih =>
    intro i n T M f f2 e hd hn n0 hf hf2 hT
    obtain ⟨f, rfl⟩ : ∃ q, f = q + 1 := ⟨f - 1, by omega⟩
    obtain ⟨f2, rfl⟩ : ∃ q, f2 = q + 1 := ⟨f2 - 1, by omega⟩
    have hT2 : yk_T (zv_up T n (zi_and (zi_ush x (8 * i)) 255)) (zv_up M n (zi_by (zi_by (zi_shr x (8 * i))))) := fun j j1 j2 => by
      by_cases ej : j = n
      · subst ej
        rw [zv_up_s, zv_up_s, zi_byte (by omega) (by omega)]
        exact ⟨rfl, zi_255⟩
      · rw [zv_up_n ej, zv_up_n ej]; exact hT j j1 j2
    obtain ⟨T', M', e1, e2, h2⟩ := ih (i - 1) (n + 1) _ _ f f2 (by omega) (by omega) (by omega) (by omega) (by omega) (by omega) hT2
    refine ⟨T', M', ?_, ?_, h2⟩
    · show zf_Tape_addNumber_l0_b x (zf_Tape_addNumber_l0 x f) (8 * i) n T = _
      unfold zf_Tape_addNumber_l0_b
      rw [if_neg (by omega), if_pos (by omega), zl_ci n0 (by omega), zi_w_id (x := 8 * i + -8) (by omega) (by omega), zi_w_id (x := n + 1) (by omega) (by omega), show 8 * i + -8 = 8 * (i - 1) by omega, e1]
      congr 2
      omega
    · show zf_M_types_l0_b x (zf_M_types_l0 x f2) i n M = _
      unfold zf_M_types_l0_b
      rw [if_neg (by omega), zl_ci n0 (by omega), zi_w_id (x := 8 * i) (by omega) (by omega), zi_w_id (x := i + -1) (by omega) (by omega), zi_w_id (x := n + 1) (by omega) (by omega), show i + -1 = i - 1 by omega, e2]
      congr 2
      omega
theorem yt_num {x n : Int} {T M : Int → Int} (n0 : 0 ≤ n) (hn : n + 4 ≤ 220) (hT : yk_T T M) : ∃ T' M', zf_Tape_addNumber x n T = some (n + 4, T') ∧ zf_M_types x n M = some (n + 4, M') ∧ yk_T T' M' := by
  obtain ⟨T', M', e1, e2, h⟩ := yt_num_l (x := x) 4 3 n T M zi_fu zi_fu (by omega) (by omega) (by omega) n0 (by decide) (by decide) hT
  refine ⟨T', M', ?_, ?_, h⟩
  · unfold zf_Tape_addNumber
    rw [show zf_Tape_addNumber_l0 x zi_fu 24 n T = _ from e1, zl_b]
    rfl
  · unfold zf_M_types
    rw [show zf_M_types_l0 x zi_fu 3 n M = _ from e2, zl_b]
    rfl
/-- the tape as both sides hold it -/
def yk_tape (n n2 : Int) (T M : Int → Int) : Prop := n2 = n ∧ 0 ≤ n ∧ n ≤ 220 ∧ yk_T T M
theorem yo_feed {a b c d e n n2 : Int} {T M : Int → Int} (h : yk_tape n n2 T M) : ∃ r n' n2' T' M', zf_X_feed a b c d e n T = some (r, n', T') ∧ zf_M_feed a b c d e n2 M = some (r, n2', M') ∧ yk_tape n' n2' T' M' := by
  obtain ⟨rfl, n0, n1, hT⟩ := h
  unfold zf_X_feed zf_M_feed
  rw [zi_w_id (x := n2 + 20) (by omega) (by omega)]
  by_cases q : 200 < n2
  · rw [if_pos q, if_pos (by omega)]
    exact ⟨-1, n2, n2, T, M, rfl, rfl, rfl, n0, n1, hT⟩
  rw [if_neg q, if_neg (by omega)]
  obtain ⟨T1, M1, e1, f1, h1⟩ := yt_num (x := a) n0 (by omega) hT
  obtain ⟨T2, M2, e2, f2, h2⟩ := yt_num (x := b) (n := n2 + 4) (by omega) (by omega) h1
  obtain ⟨T3, M3, e3, f3, h3⟩ := yt_num (x := c) (n := n2 + 4 + 4) (by omega) (by omega) h2
  obtain ⟨T4, M4, e4, f4, h4⟩ := yt_num (x := d) (n := n2 + 4 + 4 + 4) (by omega) (by omega) h3
  obtain ⟨T5, M5, e5, f5, h5⟩ := yt_num (x := e) (n := n2 + 4 + 4 + 4 + 4) (by omega) (by omega) h4
  rw [e1, f1, zl_b, zl_b]
  dsimp only
  rw [e2, f2, zl_b, zl_b]
  dsimp only
  rw [e3, f3, zl_b, zl_b]
  dsimp only
  rw [e4, f4, zl_b, zl_b]
  dsimp only
  rw [e5, f5, zl_b, zl_b]
  exact ⟨_, _, _, T5, M5, rfl, rfl, rfl, by omega, by omega, h5⟩
theorem ze_byteAt {j : Int} {T : Int → Int} (j0 : 0 ≤ j) (j1 : j < 220) : zf_Tape_byteAt j T = some (T j) := by
  unfold zf_Tape_byteAt
  rw [if_neg (by omega), if_pos j1, zl_ci j0 (by omega)]
theorem zi_ev_zb {op : Int32 → Int32 → Int32} {op2 : Int32 → Int32 → Int32} {a b c d : Int} (h : ∀ j, j < 32 → zb (zi_ev op a b) j = zb (zi_ev op2 c d) j) : zi_ev op a b = zi_ev op2 c d := zb_ext zi_ev_in.1 zi_ev_in.2 zi_ev_in.1 zi_ev_in.2 h
def yt_nb (T : Int → Int) (i : Int) : Int := zi_or (zi_or (zi_or (zi_shl (T (4 * i)) 24) (zi_shl (T (4 * i + 1)) 16)) (zi_shl (T (4 * i + 2)) 8)) (T (4 * i + 3))
theorem ze_numberAt {i : Int} {T : Int → Int} (i0 : 0 ≤ i) (i1 : i < 55) : zf_Tape_numberAt i T = some (yt_nb T i) := by
  unfold zf_Tape_numberAt yt_nb
  rw [zi_w_id (x := 4 * i) (by omega) (by omega), ze_byteAt (by omega) (by omega), zl_b, zi_w_id (x := 4 * i + 1) (by omega) (by omega), ze_byteAt (by omega) (by omega), zl_b, zi_w_id (x := 4 * i + 2) (by omega) (by omega), ze_byteAt (by omega) (by omega), zl_b, zi_w_id (x := 4 * i + 3) (by omega) (by omega), ze_byteAt (by omega) (by omega), zl_b]
theorem yt_nb_eq {a b c d : Int} : zi_or (zi_shl (zi_or (zi_shl (zi_or (zi_shl (zi_or (zi_shl 0 8) a) 8) b) 8) c) 8) d = zi_or (zi_or (zi_or (zi_shl a 24) (zi_shl b 16)) (zi_shl c 8)) d := by
  unfold zi_or
  refine zi_ev_zb fun j hj => ?_
  show zb (zi_or (zi_shl (zi_or (zi_shl (zi_or (zi_shl (zi_or (zi_shl 0 8) a) 8) b) 8) c) 8) d) j = zb (zi_or (zi_or (zi_or (zi_shl a 24) (zi_shl b 16)) (zi_shl c 8)) d) j
  have s8 : ∀ (x : Int) (k : Nat), k < 32 → zb (zi_shl x 8) k = (!decide (k < 8) && zb x (k - 8)) := fun x k hk => zb_shln (by decide) (by decide) hk
  have s16 : ∀ (x : Int) (k : Nat), k < 32 → zb (zi_shl x 16) k = (!decide (k < 16) && zb x (k - 16)) := fun x k hk => zb_shln (by decide) (by decide) hk
  have s24 : ∀ (x : Int) (k : Nat), k < 32 → zb (zi_shl x 24) k = (!decide (k < 24) && zb x (k - 24)) := fun x k hk => zb_shln (by decide) (by decide) hk
  rw [zb_or, zb_or, zb_or, zb_or, s8 _ j hj, s8 c j hj, s16 b j hj, s24 a j hj, zb_or, s8 _ (j - 8) (by omega), zb_or, s8 _ (j - 8 - 8) (by omega), zb_or, s8 _ (j - 8 - 8 - 8) (by omega), zb_0, Bool.and_false, Bool.false_or]
  rw [show j - 8 - 8 - 8 = j - 24 by omega, show j - 8 - 8 = j - 16 by omega]
  by_cases q1 : j < 8
  · rw [decide_eq_true q1, decide_eq_true (show j < 16 by omega), decide_eq_true (show j < 24 by omega)]
    simp
  rw [decide_eq_false q1]
  by_cases q2 : j < 16
  · rw [decide_eq_true q2, decide_eq_true (show j < 24 by omega), decide_eq_true (show j - 8 < 8 by omega)]
    simp
  rw [decide_eq_false q2, decide_eq_false (show ¬ j - 8 < 8 by omega)]
  by_cases q3 : j < 24
  · rw [decide_eq_true q3, decide_eq_true (show j - 16 < 8 by omega)]
    simp
  rw [decide_eq_false q3, decide_eq_false (show ¬ j - 16 < 8 by omega)]
  simp [Bool.or_assoc]
theorem ze_tapeNumber {i : Int} {T M : Int → Int} (hT : yk_T T M) (i0 : 0 ≤ i) (i1 : i < 55) : zf_M_tapeNumber i M = some (yt_nb T i) := by
  have st : ∀ (n : Nat) (s j : Int), 4 * i ≤ j → j < 4 * i + 4 → zf_M_tapeNumber_l0 i M (n + 1) s j = zf_M_tapeNumber_l0 i M n (zi_or (zi_shl s 8) (T j)) (j + 1) := fun n s j j0 j1 => by
    show zf_M_tapeNumber_l0_b i M (zf_M_tapeNumber_l0 i M n) s j = _
    unfold zf_M_tapeNumber_l0_b
    rw [zi_w_id (x := 4 * i) (by omega) (by omega), zi_w_id (x := 4 * i + 4) (by omega) (by omega), if_pos (by omega), zl_ci (by omega) (by omega), (hT j (by omega) (by omega)).1, zi_w_id (x := j + 1) (by omega) (by omega)]
  obtain ⟨n, hn⟩ : ∃ n, zi_fu = n + 1 + 1 + 1 + 1 + 1 := ⟨zi_fu - 5, by decide⟩
  unfold zf_M_tapeNumber
  rw [zi_w_id (x := 4 * i) (by omega) (by omega), hn, st _ _ _ (by omega) (by omega), st _ _ _ (by omega) (by omega), st _ _ _ (by omega) (by omega), st _ _ _ (by omega) (by omega)]
  show ((zf_M_tapeNumber_l0_b i M (zf_M_tapeNumber_l0 i M n) (zi_or (zi_shl (zi_or (zi_shl (zi_or (zi_shl (zi_or (zi_shl 0 8) (T (4 * i))) 8) (T (4 * i + 1))) 8) (T (4 * i + 1 + 1))) 8) (T (4 * i + 1 + 1 + 1))) (4 * i + 1 + 1 + 1 + 1)).bind _) = _
  unfold zf_M_tapeNumber_l0_b
  rw [zi_w_id (x := 4 * i) (by omega) (by omega), zi_w_id (x := 4 * i + 4) (by omega) (by omega), if_neg (by omega), zl_b, yt_nb_eq]
  unfold yt_nb
  rw [show 4 * i + 1 + 1 = 4 * i + 2 by omega, show 4 * i + 2 + 1 = 4 * i + 3 by omega]
end YTA
