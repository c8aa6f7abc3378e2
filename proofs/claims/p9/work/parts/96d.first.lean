/-! The state at the law's head. -/
def y0_NT : List Nat := [86, 128, 5, 0, 1, 2, 3, 4, 20, 19, 18, 25, 24, 44, 43, 35, 36, 37, 38, 39, 40, 34, 48, 47, 46, 52, 50, 32, 28, 30, 31, 26, 33, 27, 49, 51, 60, 57, 45, 58, 59, 17, 12, 13, 14, 15, 16, 76, 71, 72, 74, 75, 73, 84, 77, 78, 79, 80, 81, 29, 82, 83, 70, 67, 69, 68, 61, 62, 63, 64, 66, 65, 56, 54, 53, 55, 85, 11, 6, 7, 8, 9, 10, 23, 21, 22, 87, 90, 93, 94, 95, 92, 91, 96, 97, 98, 99, 100, 101, 103, 102, 104, 107, 108, 105, 106, 109, 110, 111, 114, 113, 112, 115, 116, 117, 118, 119, 120, 88, 121, 123, 122, 124, 125, 126, 127, 89, 41, 42]
def y0_FV : List Int := [0, 0, 0, 4, 3, 0, 0, 0, 0, 0, 0, 0, 0, 0, 0, 0, 0, 0, 0, 0, 0, 0, 0, 0, 0, 0, 0, 0, 0, 0, 0, 0, 0, 0, 0, 0, 0, 0, 0, 0, 0, 0, 0, 0, 0, 0, 4, 3, 1, 1, 0, 0, (-1), 0, (-1), 0, (-1), 0, 0, 0, 0, 0, 0, 0, (-1), 0, 0, 0, 0, 4, 3, 1, 0, 0, 0, 0, 0, 0, 0, 0, 0, 0, 0, 0, 0, 0, 0, 0, 0, 0, 0, 0, 0, 0, 0, 0, 0, 0, 0]
def y0_f0 (j : Nat) : Int := y0_FV.getD j 0
def y0_P : List (Nat × Nat × Nat) := [(5, 86, 0), (11, 86, 1), (17, 86, 2), (20, 86, 3), (23, 86, 4), (25, 86, 6), (34, 86, 7), (43, 86, 8), (44, 86, 9), (46, 86, 10), (48, 86, 11), (52, 86, 12), (56, 86, 13), (60, 86, 14), (70, 86, 15), (76, 86, 16), (84, 86, 17), (85, 86, 18), (87, 128, 0), (88, 128, 1), (89, 128, 2), (90, 128, 3), (91, 128, 14), (92, 128, 15), (93, 128, 16), (94, 128, 17), (95, 128, 18), (96, 128, 19), (97, 128, 20), (98, 128, 21), (99, 128, 22), (100, 128, 23), (101, 128, 24), (102, 128, 25), (103, 128, 26), (104, 128, 28), (105, 128, 34), (106, 128, 35), (107, 128, 36), (108, 128, 37), (109, 128, 38), (110, 128, 39), (111, 128, 40), (112, 128, 42), (113, 128, 43), (114, 128, 44), (115, 128, 45), (116, 128, 46), (117, 128, 47), (118, 128, 49), (119, 128, 50), (120, 128, 51), (121, 128, 52), (122, 128, 53), (123, 128, 54), (124, 128, 59), (125, 128, 60), (126, 128, 61), (127, 128, 62), (0, 5, 1), (1, 5, 2), (2, 5, 3), (3, 5, 4), (4, 5, 5), (6, 11, 1), (7, 11, 2), (8, 11, 3), (9, 11, 4), (10, 11, 5), (12, 17, 1), (13, 17, 2), (14, 17, 3), (15, 17, 4), (16, 17, 5), (18, 20, 0), (19, 20, 2), (21, 23, 0), (22, 23, 2), (24, 25, 0), (26, 34, 0), (27, 34, 1), (28, 34, 3), (29, 34, 4), (30, 34, 5), (31, 34, 6), (32, 34, 12), (33, 34, 13), (35, 43, 0), (36, 43, 1), (37, 43, 3), (38, 43, 4), (39, 43, 5), (40, 43, 6), (41, 43, 12), (42, 43, 13), (45, 46, 2), (47, 48, 2), (49, 52, 5), (50, 52, 8), (51, 52, 9), (53, 56, 5), (54, 56, 8), (55, 56, 9), (57, 60, 0), (58, 60, 1), (59, 60, 2), (61, 70, 4), (62, 70, 5), (63, 70, 6), (64, 70, 7), (65, 70, 8), (66, 70, 11), (67, 70, 12), (68, 70, 13), (69, 70, 14), (71, 76, 0), (72, 76, 1), (73, 76, 2), (74, 76, 4), (75, 76, 5), (77, 84, 0), (78, 84, 1), (79, 84, 2), (80, 84, 3), (81, 84, 4), (82, 84, 5), (83, 84, 6)]
theorem y0_ok : zy_ok z_TYs zyE y0_NT (zE_F y0_f0) = true := by decide +kernel
def y0_AN : List Nat := [3, 4, 5, 6, 7, 9, 10, 12, 15, 16, 17, 18, 19, 20, 23, 26, 27, 28, 29, 30, 31, 32, 33, 34, 35, 37, 38, 39, 40, 42, 43, 44, 45, 46, 48, 49, 50, 51, 52, 54, 55, 56, 57, 58, 59, 60, 61, 63, 64, 65, 66, 67, 68, 69, 70, 71, 73, 74, 75, 76, 78, 79, 80, 81, 82, 84, 85, 86, 87, 88, 89, 90, 91, 92, 93, 94, 95, 96, 97, 98, 99, 100, 101, 102, 103, 104, 105, 106, 107, 108, 109, 110, 111, 112, 113, 114, 115, 116, 117, 118, 119, 120, 121, 122, 123, 124, 125, 126, 127, 128]
theorem y0_AN_ok : (n_A zyE).all (fun q => Nat.blt q.2.2.2 110 && Nat.beq (y0_AN.getD q.2.2.2 0) q.1) = true := by decide +kernel
/-- arrays of zeros: place, name, length -/
def y0_Z : List (Nat × Nat × Nat) := [(0, 3, 24), (1, 4, 24), (2, 5, 24), (3, 6, 24), (4, 7, 24), (5, 9, 6), (6, 10, 12), (7, 12, 220), (8, 15, 200), (9, 16, 200), (10, 17, 14), (11, 18, 14), (12, 19, 14), (13, 20, 14), (14, 23, 8), (15, 26, 24), (16, 27, 13), (17, 28, 14), (18, 29, 14), (19, 30, 14), (20, 31, 200), (21, 32, 40), (22, 33, 200), (23, 34, 24), (24, 35, 24), (25, 37, 72), (26, 38, 8), (27, 39, 24), (28, 40, 8), (29, 42, 24), (30, 43, 24), (31, 44, 24), (32, 45, 24), (33, 46, 24), (34, 48, 288), (36, 50, 24), (37, 51, 24), (38, 52, 12), (39, 54, 8), (40, 55, 24), (41, 56, 24), (42, 57, 24), (43, 58, 24), (44, 59, 14), (45, 60, 1000), (46, 61, 1000), (47, 63, 288), (48, 64, 288), (49, 65, 288), (50, 66, 24), (51, 67, 264), (52, 68, 264), (53, 69, 264), (54, 70, 288), (55, 71, 264), (56, 73, 24), (57, 74, 24), (58, 75, 24), (59, 76, 288), (60, 78, 24), (61, 79, 24), (62, 80, 24), (63, 81, 24), (64, 82, 24), (65, 84, 12), (66, 85, 6), (68, 87, 220), (69, 88, 14), (70, 89, 14), (71, 90, 14), (72, 91, 220), (73, 92, 220), (74, 93, 14), (75, 94, 220), (76, 95, 14), (77, 96, 14), (78, 97, 14), (79, 98, 14), (80, 99, 13), (81, 100, 220), (82, 101, 24), (83, 102, 12), (84, 103, 12), (85, 104, 12), (86, 105, 12), (87, 106, 8), (88, 107, 8), (89, 108, 8), (90, 109, 24), (91, 110, 288), (92, 111, 6912), (93, 112, 12), (94, 113, 8), (95, 114, 28), (96, 115, 24), (97, 116, 24), (98, 117, 25000), (99, 118, 422), (100, 119, 288), (101, 120, 288), (102, 121, 288), (103, 122, 24), (104, 123, 12), (105, 124, 12), (106, 125, 288), (107, 126, 422), (108, 127, 13), (109, 128, 40)]
def y0_z1 (c n : Nat) : Bool := match y0_NT[c]? with
  | some t => (match z_TYs[t]? with
    | some (.inr q) => Nat.ble n q.2.1.1 && q.2.2.any (fun s => Nat.beq s.1.1 0 && Nat.ble n (s.1.2 + 1) && (match s.2 with
      | .inl r => z_ile 0 r.1 && z_ile r.2 0
      | _ => false))
    | _ => false)
  | none => false
theorem y0_Z_ok : y0_Z.all (fun q => Nat.beq (y0_AN.getD q.1 0) q.2.1 && y0_z1 q.2.1 q.2.2) = true := by decide +kernel
theorem zE_G_l {g : Nat → Int → Int} {j : Nat} (h : j < 110) : zv_l (zE_G g) j = some (g j) := by
  have e : zE_G g = (List.range 110).map g := rfl
  rw [e, zv_l_get, List.getElem?_map, List.getElem?_range h]
  rfl
def y0_S : List Nat := (y0_P.map (fun q : Nat × Nat × Nat => q.1)).reverse ++ [86, 128]
theorem y0_go : zy_go z_TYs y0_P [86, 128] = some y0_S := by decide +kernel
theorem y0_all : (List.range 129).all (fun t => y0_S.any (fun u => Nat.beq u t)) = true := by decide +kernel
theorem y0_NT_lt : y0_NT.all (fun t => Nat.blt t 129) = true := by decide +kernel
def y0_n1 (i : Nat) : Bool := match z_TYs[(87 : Nat)]? with
  | some (.inr q) => Nat.beq q.2.1.1 422 && q.2.2.any (fun s => Nat.ble s.1.1 i && Nat.ble i s.1.2 && (match s.2 with
    | .inl r => z_ile 0 r.1 && z_ile r.2 0
    | _ => false))
  | _ => false
theorem y0_now : (List.range 422).all (fun i => (Nat.beq i 131 || (Nat.beq i 132 || Nat.beq i 133)) || y0_n1 i) = true := by decide +kernel
theorem y0_z1_ok {c n : Nat} (h : y0_z1 c n = true) : ∃ t q s r, y0_NT[c]? = some t ∧ z_TYs[t]? = some (.inr q) ∧ n ≤ q.2.1.1 ∧ s ∈ q.2.2 ∧ s.1.1 = 0 ∧ n ≤ s.1.2 + 1 ∧ s.2 = .inl r ∧ 0 ≤ r.1 ∧ r.2 ≤ 0 := by
  unfold y0_z1 at h
  split at h
  · rename_i t ht
    split at h
    · rename_i q hq
      rw [Bool.and_eq_true] at h
      obtain ⟨h1, h2⟩ := h
      obtain ⟨s, s1, s2⟩ := List.any_eq_true.mp h2
      simp only [Bool.and_eq_true] at s2
      obtain ⟨⟨s2, s3⟩, s4⟩ := s2
      split at s4
      · rename_i r hr
        rw [Bool.and_eq_true] at s4
        exact ⟨t, q, s, r, ht, hq, Nat.le_of_ble_eq_true h1, s1, z_beq s2, Nat.le_of_ble_eq_true s3, hr, z_ile_ok s4.1, z_ile_ok s4.2⟩
      · cases s4
    · cases h
  · cases h
/-- the arrays at the head -/
def y0_g (g : Nat → Int → Int) : Prop := (∀ q ∈ y0_Z, ∀ i : Int, 0 ≤ i → i < (q.2.2 : Nat) → g q.1 i = 0) ∧ g 67 131 = 4 ∧ g 67 132 = 3 ∧ g 67 133 = 1 ∧ ∀ i : Int, 0 ≤ i → i < 422 → i ≠ 131 → i ≠ 132 → i ≠ 133 → g 67 i = 0
theorem y0_rep {OB : Nat → Nat} {D : va_G} {DA : Nat → ClassId} {sz b : Nat} {H0 H : Heap} {T : zTp} {locs : List Loc} {ls : Array Slot} {x m : Nat} (hH : zy_H OB D DA z_cl z_TYs sz H0 4 b 86 128 z_nw T H locs ls x m) (hsz : H.size ≤ sz + 129) :
    ∃ (A : Nat → Nat) (g : Nat → Int → Int), (∀ a b, a < 129 → b < 129 → A a = A b → a = b) ∧ (∀ a, a < 129 → sz ≤ A a) ∧ (∀ k, A (900 + k) = OB k) ∧ A 0 = x ∧ A 1 = m ∧ zv_rep D DA z_cl zyE A (zE_F y0_f0) (zE_G g) H ∧ y0_g g := by
  obtain ⟨⟨hht, hge, -⟩, ⟨hx, hm⟩, -, hnw⟩ := hH
  have hN : ∀ t, t < 129 → ∃ a, T a = some t := fun t ht => by
    have h1 := List.all_eq_true.mp y0_all t (List.mem_range.mpr ht)
    obtain ⟨u, hu, h2⟩ := List.any_eq_true.mp h1
    rw [← z_beq h2]
    refine zy_go_ok hht.1 y0_go (fun t ht => ?_) u hu
    rcases List.mem_cons.mp ht with rfl | ht
    · exact ⟨x, hx⟩
    · rw [List.mem_singleton.mp ht]; exact ⟨m, hm⟩
  have hinj := zy_inj (N := 129) hge (fun a t ha => by obtain ⟨ty, -, h2⟩ := hht.1 a t ha; exact z_cell_lt h2) hsz hN
  obtain ⟨A, h1, h2, h3, h4, h5, h6⟩ := zy_rep_ok y0_ok (by decide) hht.1 hge hinj fun t ht => hN t (z_blt (List.all_eq_true.mp y0_NT_lt t ht))
  have hrep := h5 (zE_G fun j => zy_rd H (A (y0_AN.getD j 0))) fun q hq => by
    have h7 := List.all_eq_true.mp y0_AN_ok q hq
    rw [Bool.and_eq_true] at h7
    rw [zE_G_l (z_blt h7.1), z_beq h7.2]
  have zero : ∀ c n, y0_z1 c n = true → ∀ i : Int, 0 ≤ i → i < (n : Nat) → zy_rd H (A c) i = 0 := fun c n hc i i0 i1 => by
    obtain ⟨t, q, s, r, a1, a2, a3, a4, a5, a6, a7, a8, a9⟩ := y0_z1_ok hc
    have h8 := h6 c t q s r a1 a2 a4 a7 i.toNat (by omega) (by omega) (by omega)
    rw [Int.toNat_of_nonneg i0] at h8
    omega
  have nw : ∀ (e : Nat) (v : Int), ((0, 12, 0, some e), Sum.inl (v, v)) ∈ z_nw → zy_rd H (A 86) (e : Int) = v := fun e v he => by
    obtain ⟨y, r, n1, n2, n3⟩ := hnw _ he
    have n2 : (Sum.inl (v, v) : zV) = .inl r := n2
    cases n2
    obtain ⟨a, r0, c1, -, -, bb, c2, c3⟩ := n1
    cases c1
    obtain ⟨r1, -, -, c4⟩ := hrep.2.2.1 (1, 12, 0, 86) (by decide +kernel)
    have e1 : A 1 = m := hinj _ _ _ (h4 1 128 rfl) hm
    have c4 : z_sl H (A 1) (D.2 12 0) (.ref (A 86)) := c4
    rw [e1] at c4
    have c5 := z_sl_fun c2 c4
    cases c5
    obtain ⟨ce, d1, -, d2⟩ := c3
    unfold zy_rd
    rw [d1, Int.toNat_natCast]
    show (match ce.slots[e]? with
      | some (.int x) => x.toInt
      | some (.long x) => (x.toBitVec.toNat : Int)
      | _ => 0) = v
    rw [d2]
    have := n3.1
    have := n3.2
    show y.toInt = v
    omega
  refine ⟨A, fun j => zy_rd H (A (y0_AN.getD j 0)), h1, h2, h3, hinj _ _ _ (h4 0 86 rfl) hx, hinj _ _ _ (h4 1 128 rfl) hm, hrep, fun q hq i i0 i1 => ?_, nw 131 4 List.mem_cons_self, nw 132 3 (List.mem_cons_of_mem _ List.mem_cons_self), nw 133 1 (List.mem_cons_of_mem _ (List.mem_cons_of_mem _ List.mem_cons_self)), fun i i0 i1 n1 n2 n3 => ?_⟩
  · have h7 := List.all_eq_true.mp y0_Z_ok q hq
    rw [Bool.and_eq_true] at h7
    show zy_rd H (A (y0_AN.getD q.1 0)) i = 0
    rw [z_beq h7.1]
    exact zero _ _ h7.2 i i0 i1
  · show zy_rd H (A 86) i = 0
    have h7 := List.all_eq_true.mp y0_now i.toNat (List.mem_range.mpr (by omega))
    rw [Bool.or_eq_true] at h7
    rcases h7 with h7 | h7
    · rw [Bool.or_eq_true, Bool.or_eq_true] at h7
      rcases h7 with h7 | h7 | h7
      · have := z_beq h7; omega
      · have := z_beq h7; omega
      · have := z_beq h7; omega
    · unfold y0_n1 at h7
      split at h7
      · rename_i q hq
        rw [Bool.and_eq_true] at h7
        obtain ⟨s, s1, s2⟩ := List.any_eq_true.mp h7.2
        simp only [Bool.and_eq_true] at s2
        obtain ⟨⟨s2, s3⟩, s4⟩ := s2
        split at s4
        · rename_i r hr
          rw [Bool.and_eq_true] at s4
          have h8 := h6 86 87 q s r rfl hq s1 hr i.toNat (by have := z_beq h7.1; omega) (Nat.le_of_ble_eq_true s2) (Nat.le_of_ble_eq_true s3)
          rw [Int.toNat_of_nonneg i0] at h8
          have := z_ile_ok s4.1
          have := z_ile_ok s4.2
          omega
        · cases s4
      · cases h7
