/-! What holds between class and reference, call by call. -/
def zI (f : Nat → Int) (g : Nat → Int → Int) : Prop :=
  (∃ L, yl_R L (g 20) (g 22) (f 32) (f 30) (f 35) (f 34) (f 36) (g 17) (g 44) (g 18) (g 19) (f 83) (g 75) (g 76) (g 77) (g 78) (g 79)) ∧ (yk_sky (f 0) (f 1) (f 28) (f 2) (f 3) (f 4) (f 48) (g 0) (g 1) (g 2) (g 3) (g 4) (g 67)) ∧ (yk_sea (f 5) (g 5) (g 6) (g 67)) ∧ (yk_tape (f 6) (f 74) (g 7) (g 68)) ∧ ((f 88 = f 37 ∧ f 89 = f 38 ∧ yk_tl (f 37) (f 38) (g 26) (g 85) (g 86))) ∧ ((f 96 = f 73 ∧ (f 73 ≠ 0 → yk_sky (f 65) (f 66) (f 67) (f 68) (f 69) (f 70) (f 71) (g 60) (g 61) (g 62) (g 63) (g 64) (g 107) ∧ yk_sea (f 72) (g 66) (g 65) (g 107)))) ∧ (yw_so (g 28)) ∧ (yw_rg 264 (g 53)) ∧ (yw_rg 264 (g 55))
theorem zI.law {f : Nat → Int} {g : Nat → Int → Int} (h : zI f g) : ∃ L, yl_R L (g 20) (g 22) (f 32) (f 30) (f 35) (f 34) (f 36) (g 17) (g 44) (g 18) (g 19) (f 83) (g 75) (g 76) (g 77) (g 78) (g 79) := h.1
theorem zI.sky {f : Nat → Int} {g : Nat → Int → Int} (h : zI f g) : yk_sky (f 0) (f 1) (f 28) (f 2) (f 3) (f 4) (f 48) (g 0) (g 1) (g 2) (g 3) (g 4) (g 67) := h.2.1
theorem zI.sea {f : Nat → Int} {g : Nat → Int → Int} (h : zI f g) : yk_sea (f 5) (g 5) (g 6) (g 67) := h.2.2.1
theorem zI.tape {f : Nat → Int} {g : Nat → Int → Int} (h : zI f g) : yk_tape (f 6) (f 74) (g 7) (g 68) := h.2.2.2.1
theorem zI.tale {f : Nat → Int} {g : Nat → Int → Int} (h : zI f g) : (f 88 = f 37 ∧ f 89 = f 38 ∧ yk_tl (f 37) (f 38) (g 26) (g 85) (g 86)) := h.2.2.2.2.1
theorem zI.kept {f : Nat → Int} {g : Nat → Int → Int} (h : zI f g) : (f 96 = f 73 ∧ (f 73 ≠ 0 → yk_sky (f 65) (f 66) (f 67) (f 68) (f 69) (f 70) (f 71) (g 60) (g 61) (g 62) (g 63) (g 64) (g 107) ∧ yk_sea (f 72) (g 66) (g 65) (g 107))) := h.2.2.2.2.2.1
theorem zI.so {f : Nat → Int} {g : Nat → Int → Int} (h : zI f g) : yw_so (g 28) := h.2.2.2.2.2.2.1
theorem zI.le {f : Nat → Int} {g : Nat → Int → Int} (h : zI f g) : yw_rg 264 (g 53) := h.2.2.2.2.2.2.2.1
theorem zI.ln {f : Nat → Int} {g : Nat → Int → Int} (h : zI f g) : yw_rg 264 (g 55) := h.2.2.2.2.2.2.2.2
section ZWI
variable {good : Nat → List zNV → List zNV → List zNV → List (Int → Int) → Prop} {Lx : Nat} {xs : Nat → Int32} {i : Int} {S F : List zNV} {G : List (Int → Int)}
abbrev zw_ai (pc : Nat) (j : Int) : Prop := decode code pc = .ok (.aload_n 0, 1) ∧ decode code (pc + 1) = .ok (.iload_n 3, 1) ∧ decode code (pc + 2) = .ok (.iconst j, 1) ∧ decode code (pc + 3) = .ok (.iadd, 1) ∧ decode code (pc + 4) = .ok (.iaload, 1)
abbrev zw_a (xs : Nat → Int32) (i j : Int) : Int := (xs (i + j).toNat).toInt
theorem zw_arg (hB : zw_B good) (hR : zw_R Lx xs good) (i0 : 0 ≤ i) (i6 : i + 6 ≤ Lx) (hL : Lx ≤ 3072) {pc : Nat} {j : Int} (h : zw_ai pc j) (j0 : 0 ≤ j) (j5 : j ≤ 5) (hc : zv_cst lwK (.iconst j) 1 = some j) (k : good (pc + 5) (zw_lc i) (.inl (zw_a xs i j) :: S) F G) : good pc (zw_lc i) S F G := by
  obtain ⟨h1, h2, h3, h4, h5⟩ := h
  refine zv_ald (ins := .aload_n 0) (len := 1) hB h1 rfl rfl rfl ?_
  refine zv_ild (ins := .iload_n 3) (len := 1) hB h2 rfl rfl ?_
  refine zv_con (ins := .iconst j) (len := 1) hB h3 hc ?_
  refine zv_iadd hB h4 (by omega) (by omega) ?_
  exact hR.2.1 _ _ _ _ _ _ h5 (by omega) (by omega) k
theorem zw_tail (hB : zw_B good) (i0 : 0 ≤ i) (i6 : i + 6 ≤ Lx) (hL : Lx ≤ 3072) (k : good 18 (zw_lc (i + 6)) [] F G) : good 1593 (zw_lc i) [] F G := by
  refine zv_iinc (i := 3) (n := 6) hB (by decide +kernel) rfl rfl (by omega) (by omega) ?_
  exact zv_goto hB (off := -1578) (t := 18) (by decide +kernel) rfl k
end ZWI
theorem zI_0 {g : Nat → Int → Int} (h : y0_g g) : zI y0_f0 g := by
  obtain ⟨hz, h1, h2, h3, h4⟩ := h
  have z : ∀ q ∈ y0_Z, ∀ i : Int, 0 ≤ i → i < (q.2.2 : Nat) → g q.1 i = 0 := hz
  have hsea : yk_sea (y0_f0 5) (g 5) (g 6) (g 67) := by
    refine ⟨⟨by decide, by decide, h4 127 (by decide) (by decide) (by decide) (by decide) (by decide), fun s s0 s1 => ?_, fun y y0 y1 => ?_, fun x y x0 x1 y0 y1 => ?_⟩, fun s s0 s1 => ?_⟩
    · rw [h4 _ (by omega) (by omega) (by omega) (by omega) (by omega), z (5, 9, 6) (by decide) s s0 s1]
    · rw [z (6, 10, 12) (by decide) y y0 y1]; decide
    · rw [h4 _ (by omega) (by omega) (by omega) (by omega) (by omega), z (6, 10, 12) (by decide) y y0 y1, if_neg]
      unfold zi_tb
      simp
    · rw [z (5, 9, 6) (by decide) s s0 s1]; decide
  refine ⟨⟨(0, fun _ => 0, fun _ _ => none, fun _ _ => none), ⟨rfl, by decide, by decide, rfl⟩, fun q q0 q1 => absurd q1 (by have : y0_f0 32 = 0 := rfl; omega), 0, by decide, fun q q0 q1 => absurd q1 (by show ¬ q < (0 : Int); omega), ⟨⟨Or.inr ⟨rfl, fun q q0 q1 => absurd q1 (by show ¬ q < (0 : Int); omega)⟩, Or.inr ⟨rfl, fun q q0 q1 => absurd q1 (by show ¬ q < (0 : Int); omega)⟩⟩, ⟨fun _ q q0 q1 => absurd q1 (by show ¬ q < (0 : Int); omega), fun _ q q0 q1 => absurd q1 (by show ¬ q < (0 : Int); omega), fun _ q q0 q1 => absurd q1 (by show ¬ q < (0 : Int); omega)⟩, fun _ q q0 q1 => absurd q1 (by show ¬ q < (0 : Int); omega), fun _ q q0 q1 => absurd q1 (by show ¬ q < (0 : Int); omega)⟩, fun j j0 j1 => by omega⟩, ?_, hsea, ?_, ⟨rfl, rfl, ?_⟩, ⟨rfl, fun h => absurd rfl h⟩, fun k k0 k1 => ?_, fun j j0 j1 => ?_, fun j j0 j1 => ?_⟩
  · refine ⟨⟨⟨by decide, by decide⟩, h4 126 (by decide) (by decide) (by decide) (by decide) (by decide)⟩, ⟨by decide, h4 128 (by decide) (by decide) (by decide) (by decide) (by decide)⟩, h4 129 (by decide) (by decide) (by decide) (by decide) (by decide), ⟨⟨by decide, by decide⟩, h4 130 (by decide) (by decide) (by decide) (by decide) (by decide)⟩, ⟨by decide, h1⟩, ⟨by decide, h2⟩, ⟨by decide, h3⟩, fun i i0 i1 => ?_⟩
    rw [z (0, 3, 24) (by decide) i i0 i1, z (1, 4, 24) (by decide) i i0 i1, z (2, 5, 24) (by decide) i i0 i1, z (3, 6, 24) (by decide) i i0 i1, z (4, 7, 24) (by decide) i i0 i1, h4 i (by omega) (by omega) (by omega) (by omega) (by omega), h4 (24 + i) (by omega) (by omega) (by omega) (by omega) (by omega), h4 (48 + i) (by omega) (by omega) (by omega) (by omega) (by omega), h4 (72 + i) (by omega) (by omega) (by omega) (by omega) (by omega), h4 (96 + i) (by omega) (by omega) (by omega) (by omega) (by omega)]
    exact ⟨by decide, by decide, fun _ => ⟨rfl, rfl, rfl, rfl, rfl⟩⟩
  · refine ⟨rfl, by decide, by decide, fun j j0 j1 => ?_⟩
    rw [z (7, 12, 220) (by decide) j j0 j1, z (68, 87, 220) (by decide) j j0 j1]
    decide
  · refine ⟨by decide, fun i i0 i1 => absurd i1 (by show ¬ i < (0 : Int); omega), fun i j i0 i1 i2 => absurd i2 (by show ¬ j < (0 : Int); omega), ⟨by decide, by decide⟩, fun b => ⟨fun hb => ?_, fun ⟨i, i0, i1, _⟩ => absurd i1 (by show ¬ i < (0 : Int); omega)⟩, fun a a0 a1 => ⟨?_, fun b => ⟨fun hb => ?_, fun ⟨i, i0, i1, _⟩ => absurd i1 (by show ¬ i < (0 : Int); omega)⟩⟩⟩
    · have hb : zb 0 b = true := hb
      rw [zb_0] at hb; cases hb
    · rw [z (26, 38, 8) (by decide) a a0 a1]; exact ⟨by decide, by decide⟩
    · rw [z (26, 38, 8) (by decide) a a0 a1, zb_0] at hb; cases hb
  · rw [z (28, 40, 8) (by decide) k k0 k1]; decide
  · rw [z (53, 69, 264) (by decide) j j0 j1]; decide
  · rw [z (55, 71, 264) (by decide) j j0 j1]; decide
