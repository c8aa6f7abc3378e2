/-! 96e.names, 97a.loop, 97b.law, 97c.inv, 97d.help, 98a.calls, 98b.calls, 98c.calls, 98d.calls, 98e.lawtale -/
section
/-! Names given anew: the two laws, the two tales change their parts. -/
def zy_rk (y : zNL) (ρ φ ψ : List Nat) : Bool :=
  (Nat.ble ρ.length 900 && (ρ.all (fun d => Nat.blt d 900) && (Nat.beq ρ.length (n_N y) && (ρ.all (fun d => Nat.blt d (n_N y)) && (List.range (n_N y)).all (fun a => (List.range (n_N y)).all (fun b => Nat.beq a b || !(Nat.beq (zv_rc ρ a) (zv_rc ρ b)))))))) &&
  ((n_O y).all (fun q => (n_O y).any (fun u => Nat.beq u.1 (zv_rc ρ q.1) && Nat.beq u.2 q.2)) &&
  ((n_I y).all (fun q => (n_I y).any (fun u => zv_e4 u (zv_rc ρ q.1, q.2.1, q.2.2.1, zv_rc φ q.2.2.2))) &&
  ((n_R y).all (fun q => (n_R y).any (fun u => zv_e4 u (zv_rc ρ q.1, q.2.1, q.2.2.1, zv_rc ρ q.2.2.2))) &&
  (n_A y).all (fun q => (n_A y).any (fun u => zv_e4 u (zv_rc ρ q.1, q.2.1, q.2.2.1, zv_rc ψ q.2.2.2))))))
theorem zy_rk1 {y : zNL} {ρ φ ψ : List Nat} (h : zy_rk y ρ φ ψ = true) : (ρ.length ≤ 900 ∧ (∀ d ∈ ρ, d < 900) ∧ (∀ a, a < n_N y → zv_rc ρ a < n_N y) ∧ ∀ a b, a < n_N y → b < n_N y → zv_rc ρ a = zv_rc ρ b → a = b) ∧ (∀ q ∈ n_O y, (zv_rc ρ q.1, q.2) ∈ n_O y) ∧ (∀ q ∈ n_I y, (zv_rc ρ q.1, q.2.1, q.2.2.1, zv_rc φ q.2.2.2) ∈ n_I y) ∧ (∀ q ∈ n_R y, (zv_rc ρ q.1, q.2.1, q.2.2.1, zv_rc ρ q.2.2.2) ∈ n_R y) ∧ ∀ q ∈ n_A y, (zv_rc ρ q.1, q.2.1, q.2.2.1, zv_rc ψ q.2.2.2) ∈ n_A y := by
  unfold zy_rk at h
  simp only [Bool.and_eq_true] at h
  obtain ⟨⟨a1, a2, a3, a4, a5⟩, b1, b2, b3, b4⟩ := h
  refine ⟨⟨Nat.le_of_ble_eq_true a1, fun d hd => z_blt (List.all_eq_true.mp a2 d hd), fun a ha => ?_, fun a b ha hb e => ?_⟩, fun q hq => ?_, fun q hq => zv_any4 (List.all_eq_true.mp b2 q hq), fun q hq => zv_any4 (List.all_eq_true.mp b3 q hq), fun q hq => zv_any4 (List.all_eq_true.mp b4 q hq)⟩
  · have hl := z_beq a3
    unfold zv_rc
    rw [zv_l_get, List.getElem?_eq_getElem (by omega)]
    exact z_blt (List.all_eq_true.mp a4 _ (List.getElem_mem _))
  · have h3 := List.all_eq_true.mp (List.all_eq_true.mp a5 a (List.mem_range.mpr ha)) b (List.mem_range.mpr hb)
    rw [Bool.or_eq_true] at h3
    rcases h3 with h3 | h3
    · exact z_beq h3
    · rw [e] at h3
      have : Nat.beq (zv_rc ρ b) (zv_rc ρ b) = true := Nat.beq_refl _
      rw [this] at h3
      cases h3
  · obtain ⟨u, hu, h2⟩ := List.any_eq_true.mp (List.all_eq_true.mp b1 q hq)
    rw [Bool.and_eq_true] at h2
    rw [← z_beq h2.1, ← z_beq h2.2]; exact hu
theorem zy_ren {D : va_G} {DA : Nat → ClassId} {cl : List vw_C} {y : zNL} {A : Nat → Nat} {F F2 : List zNV} {G G2 : List (Int → Int)} {H : Heap} {ρ φ ψ : List Nat} (hk : zy_rk y ρ φ ψ = true) (hF : ∀ q ∈ n_I y, ∃ v, zv_l F2 q.2.2.2 = some v ∧ (zv_is v → zv_l F (zv_rc φ q.2.2.2) = some (zv_rn ρ v))) (hG : ∀ q ∈ n_A y, zv_l G2 q.2.2.2 = zv_l G (zv_rc ψ q.2.2.2)) (h : zv_rep D DA cl y A F G H) : zv_rep D DA cl y (fun c => A (zv_rc ρ c)) F2 G2 H := by
  obtain ⟨⟨a1, a2, -, -⟩, b1, b2, b3, b4⟩ := zy_rk1 hk
  refine ⟨fun q hq => h.1 _ (b1 q hq), fun q hq => ?_, fun q hq => h.2.2.1 _ (b3 q hq), fun q hq => ?_⟩
  · obtain ⟨r, w, f, r1, r2, r3, r4, r5⟩ := h.2.1 _ (b2 q hq)
    obtain ⟨v, v1, v2⟩ := hF q hq
    refine ⟨r, w, v, r1, r2, r3, v1, fun hv => ?_⟩
    have e := v2 hv
    rw [r4] at e
    cases e
    match v, hv, r5 with
    | .inl x, _, r5 => exact r5 trivial
    | .inr c, hv, r5 =>
      have hc : c < 1000 := hv
      refine zv_w_rn a1 a2 (r5 (show zv_rc ρ c < 1000 from ?_))
      unfold zv_rc
      split
      · rename_i d hd
        rw [zv_l_get] at hd
        have := a2 d (List.mem_of_getElem? hd)
        omega
      · exact hc
  · obtain ⟨f, g, g1, g2, g3⟩ := h.2.2.2 _ (b4 q hq)
    exact ⟨f, g, g1, by rw [hG q hq]; exact g2, g3⟩
def zE_s1 : List Nat := [0, 1, 2, 3, 4, 5, 6, 7, 8, 9, 10, 11, 12, 13, 21, 31, 33, 28, 59, 29, 30, 14, 22, 23, 24, 25, 26, 127, 17, 19, 20, 15, 128, 16, 34, 35, 36, 37, 38, 39, 40, 41, 42, 43, 44, 45, 46, 47, 48, 49, 50, 51, 52, 53, 54, 55, 56, 57, 58, 18, 60, 61, 62, 63, 64, 65, 66, 67, 68, 69, 70, 71, 72, 73, 74, 75, 76, 77, 78, 79, 80, 81, 82, 83, 84, 85, 86, 87, 88, 89, 90, 91, 92, 93, 94, 95, 96, 97, 98, 99, 100, 101, 102, 103, 104, 105, 106, 107, 108, 109, 110, 111, 112, 113, 114, 115, 116, 117, 118, 119, 120, 121, 122, 123, 124, 125, 126, 27, 32]
def zE_p1 : List Nat := [0, 1, 2, 3, 4, 5, 6, 7, 8, 9, 10, 11, 12, 98, 32, 30, 35, 34, 36, 19, 20, 21, 22, 23, 24, 25, 26, 27, 28, 29, 15, 31, 14, 97, 17, 16, 18, 37, 38, 39, 40, 41, 42, 43, 44, 45, 46, 47, 48, 49, 50, 51, 52, 53, 54, 55, 56, 57, 58, 59, 60, 61, 62, 63, 64, 65, 66, 67, 68, 69, 70, 71, 72, 73, 74, 75, 76, 77, 78, 79, 80, 81, 82, 83, 84, 85, 86, 87, 88, 89, 90, 91, 92, 93, 94, 95, 96, 33, 13]
def zE_q1 : List Nat := [0, 1, 2, 3, 4, 5, 6, 7, 20, 22, 17, 44, 18, 19, 14, 15, 108, 10, 12, 13, 8, 109, 9, 23, 24, 25, 26, 27, 28, 29, 30, 31, 32, 33, 34, 35, 36, 37, 38, 39, 40, 41, 42, 43, 11, 45, 46, 47, 48, 49, 50, 51, 52, 53, 54, 55, 56, 57, 58, 59, 60, 61, 62, 63, 64, 65, 66, 67, 68, 69, 70, 71, 72, 73, 74, 75, 76, 77, 78, 79, 80, 81, 82, 83, 84, 85, 86, 87, 88, 89, 90, 91, 92, 93, 94, 95, 96, 97, 98, 99, 100, 101, 102, 103, 104, 105, 106, 107, 16, 21]
theorem zE_rk1 : zy_rk zyE zE_s1 zE_p1 zE_q1 = true := by decide +kernel
theorem zE_lt1 : ((n_I zyE).all (fun q => Nat.blt q.2.2.2 99) && (n_A zyE).all (fun q => Nat.blt q.2.2.2 110 && Nat.blt (zv_rc zE_q1 q.2.2.2) 110)) = true := by decide +kernel
theorem zE_fl1 {f : Nat → Int} : ∀ j, j < 99 → ∃ v, zv_l (zE_F (fun j => f (zv_rc zE_p1 j))) j = some v ∧ (zv_is v → zv_l (zE_Fr 21 14 1000 22 24 1000 1000 1000 1000 1000 1000 f) (zv_rc zE_p1 j) = some (zv_rn zE_s1 v)) := by
  intro j hj
  match j, hj with
  | 0, _ => exact ⟨_, rfl, fun _ => rfl⟩
  | 1, _ => exact ⟨_, rfl, fun _ => rfl⟩
  | 2, _ => exact ⟨_, rfl, fun _ => rfl⟩
  | 3, _ => exact ⟨_, rfl, fun _ => rfl⟩
  | 4, _ => exact ⟨_, rfl, fun _ => rfl⟩
  | 5, _ => exact ⟨_, rfl, fun _ => rfl⟩
  | 6, _ => exact ⟨_, rfl, fun _ => rfl⟩
  | 7, _ => exact ⟨_, rfl, fun _ => rfl⟩
  | 8, _ => exact ⟨_, rfl, fun _ => rfl⟩
  | 9, _ => exact ⟨_, rfl, fun _ => rfl⟩
  | 10, _ => exact ⟨_, rfl, fun _ => rfl⟩
  | 11, _ => exact ⟨_, rfl, fun _ => rfl⟩
  | 12, _ => exact ⟨_, rfl, fun (h : zv_is (.inr 1000)) => (Nat.lt_irrefl 1000 h).elim⟩
  | 13, _ => exact ⟨_, rfl, fun _ => rfl⟩
  | 14, _ => exact ⟨_, rfl, fun _ => rfl⟩
  | 15, _ => exact ⟨_, rfl, fun _ => rfl⟩
  | 16, _ => exact ⟨_, rfl, fun _ => rfl⟩
  | 17, _ => exact ⟨_, rfl, fun _ => rfl⟩
  | 18, _ => exact ⟨_, rfl, fun _ => rfl⟩
  | 19, _ => exact ⟨_, rfl, fun _ => rfl⟩
  | 20, _ => exact ⟨_, rfl, fun _ => rfl⟩
  | 21, _ => exact ⟨_, rfl, fun _ => rfl⟩
  | 22, _ => exact ⟨_, rfl, fun _ => rfl⟩
  | 23, _ => exact ⟨_, rfl, fun (h : zv_is (.inr 1000)) => (Nat.lt_irrefl 1000 h).elim⟩
  | 24, _ => exact ⟨_, rfl, fun (h : zv_is (.inr 1000)) => (Nat.lt_irrefl 1000 h).elim⟩
  | 25, _ => exact ⟨_, rfl, fun _ => rfl⟩
  | 26, _ => exact ⟨_, rfl, fun _ => rfl⟩
  | 27, _ => exact ⟨_, rfl, fun _ => rfl⟩
  | 28, _ => exact ⟨_, rfl, fun _ => rfl⟩
  | 29, _ => exact ⟨_, rfl, fun _ => rfl⟩
  | 30, _ => exact ⟨_, rfl, fun _ => rfl⟩
  | 31, _ => exact ⟨_, rfl, fun _ => rfl⟩
  | 32, _ => exact ⟨_, rfl, fun _ => rfl⟩
  | 33, _ => exact ⟨_, rfl, fun _ => rfl⟩
  | 34, _ => exact ⟨_, rfl, fun _ => rfl⟩
  | 35, _ => exact ⟨_, rfl, fun _ => rfl⟩
  | 36, _ => exact ⟨_, rfl, fun _ => rfl⟩
  | 37, _ => exact ⟨_, rfl, fun _ => rfl⟩
  | 38, _ => exact ⟨_, rfl, fun _ => rfl⟩
  | 39, _ => exact ⟨_, rfl, fun (h : zv_is (.inr 1000)) => (Nat.lt_irrefl 1000 h).elim⟩
  | 40, _ => exact ⟨_, rfl, fun (h : zv_is (.inr 1000)) => (Nat.lt_irrefl 1000 h).elim⟩
  | 41, _ => exact ⟨_, rfl, fun _ => rfl⟩
  | 42, _ => exact ⟨_, rfl, fun _ => rfl⟩
  | 43, _ => exact ⟨_, rfl, fun _ => rfl⟩
  | 44, _ => exact ⟨_, rfl, fun _ => rfl⟩
  | 45, _ => exact ⟨_, rfl, fun _ => rfl⟩
  | 46, _ => exact ⟨_, rfl, fun _ => rfl⟩
  | 47, _ => exact ⟨_, rfl, fun _ => rfl⟩
  | 48, _ => exact ⟨_, rfl, fun _ => rfl⟩
  | 49, _ => exact ⟨_, rfl, fun _ => rfl⟩
  | 50, _ => exact ⟨_, rfl, fun _ => rfl⟩
  | 51, _ => exact ⟨_, rfl, fun _ => rfl⟩
  | 52, _ => exact ⟨_, rfl, fun _ => rfl⟩
  | 53, _ => exact ⟨_, rfl, fun _ => rfl⟩
  | 54, _ => exact ⟨_, rfl, fun _ => rfl⟩
  | 55, _ => exact ⟨_, rfl, fun _ => rfl⟩
  | 56, _ => exact ⟨_, rfl, fun _ => rfl⟩
  | 57, _ => exact ⟨_, rfl, fun (h : zv_is (.inr 1000)) => (Nat.lt_irrefl 1000 h).elim⟩
  | 58, _ => exact ⟨_, rfl, fun (h : zv_is (.inr 1000)) => (Nat.lt_irrefl 1000 h).elim⟩
  | 59, _ => exact ⟨_, rfl, fun _ => rfl⟩
  | 60, _ => exact ⟨_, rfl, fun _ => rfl⟩
  | 61, _ => exact ⟨_, rfl, fun _ => rfl⟩
  | 62, _ => exact ⟨_, rfl, fun _ => rfl⟩
  | 63, _ => exact ⟨_, rfl, fun _ => rfl⟩
  | 64, _ => exact ⟨_, rfl, fun _ => rfl⟩
  | 65, _ => exact ⟨_, rfl, fun _ => rfl⟩
  | 66, _ => exact ⟨_, rfl, fun _ => rfl⟩
  | 67, _ => exact ⟨_, rfl, fun _ => rfl⟩
  | 68, _ => exact ⟨_, rfl, fun _ => rfl⟩
  | 69, _ => exact ⟨_, rfl, fun _ => rfl⟩
  | 70, _ => exact ⟨_, rfl, fun _ => rfl⟩
  | 71, _ => exact ⟨_, rfl, fun _ => rfl⟩
  | 72, _ => exact ⟨_, rfl, fun _ => rfl⟩
  | 73, _ => exact ⟨_, rfl, fun _ => rfl⟩
  | 74, _ => exact ⟨_, rfl, fun _ => rfl⟩
  | 75, _ => exact ⟨_, rfl, fun _ => rfl⟩
  | 76, _ => exact ⟨_, rfl, fun _ => rfl⟩
  | 77, _ => exact ⟨_, rfl, fun _ => rfl⟩
  | 78, _ => exact ⟨_, rfl, fun _ => rfl⟩
  | 79, _ => exact ⟨_, rfl, fun _ => rfl⟩
  | 80, _ => exact ⟨_, rfl, fun _ => rfl⟩
  | 81, _ => exact ⟨_, rfl, fun _ => rfl⟩
  | 82, _ => exact ⟨_, rfl, fun _ => rfl⟩
  | 83, _ => exact ⟨_, rfl, fun _ => rfl⟩
  | 84, _ => exact ⟨_, rfl, fun _ => rfl⟩
  | 85, _ => exact ⟨_, rfl, fun _ => rfl⟩
  | 86, _ => exact ⟨_, rfl, fun _ => rfl⟩
  | 87, _ => exact ⟨_, rfl, fun _ => rfl⟩
  | 88, _ => exact ⟨_, rfl, fun _ => rfl⟩
  | 89, _ => exact ⟨_, rfl, fun _ => rfl⟩
  | 90, _ => exact ⟨_, rfl, fun _ => rfl⟩
  | 91, _ => exact ⟨_, rfl, fun _ => rfl⟩
  | 92, _ => exact ⟨_, rfl, fun _ => rfl⟩
  | 93, _ => exact ⟨_, rfl, fun _ => rfl⟩
  | 94, _ => exact ⟨_, rfl, fun _ => rfl⟩
  | 95, _ => exact ⟨_, rfl, fun _ => rfl⟩
  | 96, _ => exact ⟨_, rfl, fun _ => rfl⟩
  | 97, _ => exact ⟨_, rfl, fun _ => rfl⟩
  | 98, _ => exact ⟨_, rfl, fun _ => rfl⟩
  | n + 99, h => omega
theorem zE_sw1 {D : va_G} {DA : Nat → ClassId} {cl : List vw_C} {A : Nat → Nat} {f : Nat → Int} {g : Nat → Int → Int} {H : Heap} (h : zv_rep D DA cl zyE A (zE_Fr 21 14 1000 22 24 1000 1000 1000 1000 1000 1000 f) (zE_G g) H) : zv_rep D DA cl zyE (fun c => A (zv_rc zE_s1 c)) (zE_F (fun j => f (zv_rc zE_p1 j))) (zE_G (fun j => g (zv_rc zE_q1 j))) H := by
  have hl := zE_lt1
  rw [Bool.and_eq_true] at hl
  refine zy_ren zE_rk1 (fun q hq => zE_fl1 _ (z_blt (List.all_eq_true.mp hl.1 q hq))) (fun q hq => ?_) h
  have h2 := List.all_eq_true.mp hl.2 q hq
  rw [Bool.and_eq_true] at h2
  rw [zE_G_l (z_blt h2.1), zE_G_l (z_blt h2.2)]
def zE_s2 : List Nat := [0, 1, 2, 3, 4, 5, 6, 7, 8, 9, 10, 11, 12, 13, 14, 15, 16, 17, 18, 19, 20, 21, 24, 38, 22, 25, 26, 27, 28, 29, 30, 31, 32, 33, 34, 35, 36, 37, 23, 39, 40, 41, 42, 43, 44, 45, 46, 47, 48, 49, 50, 51, 52, 53, 54, 55, 56, 57, 58, 59, 60, 61, 62, 63, 64, 65, 66, 67, 68, 69, 70, 71, 72, 73, 74, 75, 76, 77, 78, 79, 80, 81, 82, 83, 84, 85, 86, 87, 88, 89, 90, 91, 92, 93, 94, 95, 96, 97, 98, 99, 100, 101, 102, 103, 104, 105, 106, 107, 108, 109, 110, 111, 112, 113, 114, 115, 116, 117, 118, 119, 120, 121, 122, 123, 124, 125, 126, 127, 128]
def zE_p2 : List Nat := [0, 1, 2, 3, 4, 5, 6, 7, 8, 9, 10, 11, 12, 13, 14, 15, 16, 17, 18, 19, 20, 37, 38, 23, 24, 25, 26, 27, 28, 29, 30, 31, 32, 33, 34, 35, 36, 21, 22, 39, 40, 41, 42, 43, 44, 45, 46, 47, 48, 49, 50, 51, 52, 53, 54, 55, 56, 57, 58, 59, 60, 61, 62, 63, 64, 65, 66, 67, 68, 69, 70, 71, 72, 73, 74, 75, 76, 77, 78, 79, 80, 81, 82, 83, 84, 85, 86, 87, 88, 89, 90, 91, 92, 93, 94, 95, 96, 97, 98]
def zE_q2 : List Nat := [0, 1, 2, 3, 4, 5, 6, 7, 8, 9, 10, 11, 12, 13, 26, 15, 16, 17, 18, 19, 20, 21, 22, 23, 24, 25, 14, 27, 28, 29, 30, 31, 32, 33, 34, 35, 36, 37, 38, 39, 40, 41, 42, 43, 44, 45, 46, 47, 48, 49, 50, 51, 52, 53, 54, 55, 56, 57, 58, 59, 60, 61, 62, 63, 64, 65, 66, 67, 68, 69, 70, 71, 72, 73, 74, 75, 76, 77, 78, 79, 80, 81, 82, 83, 84, 85, 86, 87, 88, 89, 90, 91, 92, 93, 94, 95, 96, 97, 98, 99, 100, 101, 102, 103, 104, 105, 106, 107, 108, 109]
theorem zE_rk2 : zy_rk zyE zE_s2 zE_p2 zE_q2 = true := by decide +kernel
theorem zE_lt2 : ((n_I zyE).all (fun q => Nat.blt q.2.2.2 99) && (n_A zyE).all (fun q => Nat.blt q.2.2.2 110 && Nat.blt (zv_rc zE_q2 q.2.2.2) 110)) = true := by decide +kernel
theorem zE_fl2 {f : Nat → Int} : ∀ j, j < 99 → ∃ v, zv_l (zE_F (fun j => f (zv_rc zE_p2 j))) j = some v ∧ (zv_is v → zv_l (zE_Fr 14 21 1000 24 22 1000 1000 1000 1000 1000 1000 f) (zv_rc zE_p2 j) = some (zv_rn zE_s2 v)) := by
  intro j hj
  match j, hj with
  | 0, _ => exact ⟨_, rfl, fun _ => rfl⟩
  | 1, _ => exact ⟨_, rfl, fun _ => rfl⟩
  | 2, _ => exact ⟨_, rfl, fun _ => rfl⟩
  | 3, _ => exact ⟨_, rfl, fun _ => rfl⟩
  | 4, _ => exact ⟨_, rfl, fun _ => rfl⟩
  | 5, _ => exact ⟨_, rfl, fun _ => rfl⟩
  | 6, _ => exact ⟨_, rfl, fun _ => rfl⟩
  | 7, _ => exact ⟨_, rfl, fun _ => rfl⟩
  | 8, _ => exact ⟨_, rfl, fun _ => rfl⟩
  | 9, _ => exact ⟨_, rfl, fun _ => rfl⟩
  | 10, _ => exact ⟨_, rfl, fun _ => rfl⟩
  | 11, _ => exact ⟨_, rfl, fun _ => rfl⟩
  | 12, _ => exact ⟨_, rfl, fun (h : zv_is (.inr 1000)) => (Nat.lt_irrefl 1000 h).elim⟩
  | 13, _ => exact ⟨_, rfl, fun _ => rfl⟩
  | 14, _ => exact ⟨_, rfl, fun _ => rfl⟩
  | 15, _ => exact ⟨_, rfl, fun _ => rfl⟩
  | 16, _ => exact ⟨_, rfl, fun _ => rfl⟩
  | 17, _ => exact ⟨_, rfl, fun _ => rfl⟩
  | 18, _ => exact ⟨_, rfl, fun _ => rfl⟩
  | 19, _ => exact ⟨_, rfl, fun _ => rfl⟩
  | 20, _ => exact ⟨_, rfl, fun _ => rfl⟩
  | 21, _ => exact ⟨_, rfl, fun _ => rfl⟩
  | 22, _ => exact ⟨_, rfl, fun _ => rfl⟩
  | 23, _ => exact ⟨_, rfl, fun (h : zv_is (.inr 1000)) => (Nat.lt_irrefl 1000 h).elim⟩
  | 24, _ => exact ⟨_, rfl, fun (h : zv_is (.inr 1000)) => (Nat.lt_irrefl 1000 h).elim⟩
  | 25, _ => exact ⟨_, rfl, fun _ => rfl⟩
  | 26, _ => exact ⟨_, rfl, fun _ => rfl⟩
  | 27, _ => exact ⟨_, rfl, fun _ => rfl⟩
  | 28, _ => exact ⟨_, rfl, fun _ => rfl⟩
  | 29, _ => exact ⟨_, rfl, fun _ => rfl⟩
  | 30, _ => exact ⟨_, rfl, fun _ => rfl⟩
  | 31, _ => exact ⟨_, rfl, fun _ => rfl⟩
  | 32, _ => exact ⟨_, rfl, fun _ => rfl⟩
  | 33, _ => exact ⟨_, rfl, fun _ => rfl⟩
  | 34, _ => exact ⟨_, rfl, fun _ => rfl⟩
  | 35, _ => exact ⟨_, rfl, fun _ => rfl⟩
  | 36, _ => exact ⟨_, rfl, fun _ => rfl⟩
  | 37, _ => exact ⟨_, rfl, fun _ => rfl⟩
  | 38, _ => exact ⟨_, rfl, fun _ => rfl⟩
  | 39, _ => exact ⟨_, rfl, fun (h : zv_is (.inr 1000)) => (Nat.lt_irrefl 1000 h).elim⟩
  | 40, _ => exact ⟨_, rfl, fun (h : zv_is (.inr 1000)) => (Nat.lt_irrefl 1000 h).elim⟩
  | 41, _ => exact ⟨_, rfl, fun _ => rfl⟩
  | 42, _ => exact ⟨_, rfl, fun _ => rfl⟩
  | 43, _ => exact ⟨_, rfl, fun _ => rfl⟩
  | 44, _ => exact ⟨_, rfl, fun _ => rfl⟩
  | 45, _ => exact ⟨_, rfl, fun _ => rfl⟩
  | 46, _ => exact ⟨_, rfl, fun _ => rfl⟩
  | 47, _ => exact ⟨_, rfl, fun _ => rfl⟩
  | 48, _ => exact ⟨_, rfl, fun _ => rfl⟩
  | 49, _ => exact ⟨_, rfl, fun _ => rfl⟩
  | 50, _ => exact ⟨_, rfl, fun _ => rfl⟩
  | 51, _ => exact ⟨_, rfl, fun _ => rfl⟩
  | 52, _ => exact ⟨_, rfl, fun _ => rfl⟩
  | 53, _ => exact ⟨_, rfl, fun _ => rfl⟩
  | 54, _ => exact ⟨_, rfl, fun _ => rfl⟩
  | 55, _ => exact ⟨_, rfl, fun _ => rfl⟩
  | 56, _ => exact ⟨_, rfl, fun _ => rfl⟩
  | 57, _ => exact ⟨_, rfl, fun (h : zv_is (.inr 1000)) => (Nat.lt_irrefl 1000 h).elim⟩
  | 58, _ => exact ⟨_, rfl, fun (h : zv_is (.inr 1000)) => (Nat.lt_irrefl 1000 h).elim⟩
  | 59, _ => exact ⟨_, rfl, fun _ => rfl⟩
  | 60, _ => exact ⟨_, rfl, fun _ => rfl⟩
  | 61, _ => exact ⟨_, rfl, fun _ => rfl⟩
  | 62, _ => exact ⟨_, rfl, fun _ => rfl⟩
  | 63, _ => exact ⟨_, rfl, fun _ => rfl⟩
  | 64, _ => exact ⟨_, rfl, fun _ => rfl⟩
  | 65, _ => exact ⟨_, rfl, fun _ => rfl⟩
  | 66, _ => exact ⟨_, rfl, fun _ => rfl⟩
  | 67, _ => exact ⟨_, rfl, fun _ => rfl⟩
  | 68, _ => exact ⟨_, rfl, fun _ => rfl⟩
  | 69, _ => exact ⟨_, rfl, fun _ => rfl⟩
  | 70, _ => exact ⟨_, rfl, fun _ => rfl⟩
  | 71, _ => exact ⟨_, rfl, fun _ => rfl⟩
  | 72, _ => exact ⟨_, rfl, fun _ => rfl⟩
  | 73, _ => exact ⟨_, rfl, fun _ => rfl⟩
  | 74, _ => exact ⟨_, rfl, fun _ => rfl⟩
  | 75, _ => exact ⟨_, rfl, fun _ => rfl⟩
  | 76, _ => exact ⟨_, rfl, fun _ => rfl⟩
  | 77, _ => exact ⟨_, rfl, fun _ => rfl⟩
  | 78, _ => exact ⟨_, rfl, fun _ => rfl⟩
  | 79, _ => exact ⟨_, rfl, fun _ => rfl⟩
  | 80, _ => exact ⟨_, rfl, fun _ => rfl⟩
  | 81, _ => exact ⟨_, rfl, fun _ => rfl⟩
  | 82, _ => exact ⟨_, rfl, fun _ => rfl⟩
  | 83, _ => exact ⟨_, rfl, fun _ => rfl⟩
  | 84, _ => exact ⟨_, rfl, fun _ => rfl⟩
  | 85, _ => exact ⟨_, rfl, fun _ => rfl⟩
  | 86, _ => exact ⟨_, rfl, fun _ => rfl⟩
  | 87, _ => exact ⟨_, rfl, fun _ => rfl⟩
  | 88, _ => exact ⟨_, rfl, fun _ => rfl⟩
  | 89, _ => exact ⟨_, rfl, fun _ => rfl⟩
  | 90, _ => exact ⟨_, rfl, fun _ => rfl⟩
  | 91, _ => exact ⟨_, rfl, fun _ => rfl⟩
  | 92, _ => exact ⟨_, rfl, fun _ => rfl⟩
  | 93, _ => exact ⟨_, rfl, fun _ => rfl⟩
  | 94, _ => exact ⟨_, rfl, fun _ => rfl⟩
  | 95, _ => exact ⟨_, rfl, fun _ => rfl⟩
  | 96, _ => exact ⟨_, rfl, fun _ => rfl⟩
  | 97, _ => exact ⟨_, rfl, fun _ => rfl⟩
  | 98, _ => exact ⟨_, rfl, fun _ => rfl⟩
  | n + 99, h => omega
theorem zE_sw2 {D : va_G} {DA : Nat → ClassId} {cl : List vw_C} {A : Nat → Nat} {f : Nat → Int} {g : Nat → Int → Int} {H : Heap} (h : zv_rep D DA cl zyE A (zE_Fr 14 21 1000 24 22 1000 1000 1000 1000 1000 1000 f) (zE_G g) H) : zv_rep D DA cl zyE (fun c => A (zv_rc zE_s2 c)) (zE_F (fun j => f (zv_rc zE_p2 j))) (zE_G (fun j => g (zv_rc zE_q2 j))) H := by
  have hl := zE_lt2
  rw [Bool.and_eq_true] at hl
  refine zy_ren zE_rk2 (fun q hq => zE_fl2 _ (z_blt (List.all_eq_true.mp hl.1 q hq))) (fun q hq => ?_) h
  have h2 := List.all_eq_true.mp hl.2 q hq
  rw [Bool.and_eq_true] at h2
  rw [zE_G_l (z_blt h2.1), zE_G_l (z_blt h2.2)]
end
section
/-! The law over names: its rules, its loop. -/
abbrev lwm : zM := (x, code, 4, ret, 1, 0)
abbrev lwK : zK := (z_KF12, z_KC12, z_KL12, z_KT12, [], [], [], none)
abbrev zw_lc (i : Int) : List zNV := [.inr 900, .inr 0, .inr 1, .inl i]
def zw_R (Lx : Nat) (xs : Nat → Int32) (good : Nat → List zNV → List zNV → List zNV → List (Int → Int) → Prop) : Prop :=
  (∀ pc L S F G, decode code pc = .ok (.arraylength, 1) → good (pc + 1) L (.inl (Lx : Int) :: S) F G → good pc L (.inr 900 :: S) F G) ∧
  (∀ pc L S F G (a : Int), decode code pc = .ok (.iaload, 1) → 0 ≤ a → a < (Lx : Int) → good (pc + 1) L (.inl (xs a.toNat).toInt :: S) F G → good pc L (.inl a :: .inr 900 :: S) F G) ∧
  (∀ pc L F G, decode code pc = .ok (.ireturn, 1) → good pc L [.inl 1] F G)
abbrev zw_B (good : Nat → List zNV → List zNV → List zNV → List (Int → Int) → Prop) : Prop := zv_B z_cl z_FT z_KX z_TB z_MT zyE lwm lwK (2048, 84000) good
/-- one call of the law, from behind its test -/
def zw_body (Lx : Nat) (xs : Nat → Int32) (Inv : (Nat → Int) → (Nat → Int → Int) → Prop) : Prop :=
  ∀ good, zw_B good → zw_R Lx xs good → ∀ (i : Int) (f : Nat → Int) (g : Nat → Int → Int), Inv f g → 0 ≤ i → i + 6 ≤ Lx →
    (∀ f' g', Inv f' g' → good 18 (zw_lc (i + 6)) [] (zE_F f') (zE_G g')) →
    (∀ f' g', Inv (fun j => f' (zv_rc zE_p1 j)) (fun j => g' (zv_rc zE_q1 j)) → good 18 (zw_lc (i + 6)) [] (zE_Fr 21 14 1000 22 24 1000 1000 1000 1000 1000 1000 f') (zE_G g')) →
    (∀ f' g', Inv (fun j => f' (zv_rc zE_p2 j)) (fun j => g' (zv_rc zE_q2 j)) → good 18 (zw_lc (i + 6)) [] (zE_Fr 14 21 1000 24 22 1000 1000 1000 1000 1000 1000 f') (zE_G g')) →
    good 27 (zw_lc i) [] (zE_F f) (zE_G g)
section ZWLOOP
variable {p : Program} {l : Launch} {e : Env} {s : State} {m : MethodId} {args : Array Value} {below : List Frame} {meth : Method} {c : Code} {Q : State → Prop}
variable {OB : Nat → Nat} {D : va_G} {DA : Nat → ClassId} {b Lx : Nat} {xs : Nat → Int32} {Inv : (Nat → Int) → (Nat → Int → Int) → Prop}
theorem zw_S {sz : Nat} {H0 H H2 : Heap} {locs locs2 : List Loc} (hz : sz ≤ H0.size) (h : va_S (fun q => sz ≤ q) H0 H locs) (h2 : va_S (fun q => sz ≤ q) H H2 locs2) : va_S (fun q => sz ≤ q) H0 H2 locs2 :=
  ⟨Nat.le_trans h.1 h2.1, fun q h3 h4 => (h2.2.1 q (Nat.lt_of_lt_of_le h3 h.1) h4).trans (h.2.1 q h3 h4), h2.2.2⟩
theorem zw_ren {A : Nat → Nat} {ρ φ ψ : List Nat} {sz : Nat} (hk : zy_rk zyE ρ φ ψ = true) (hinj : ∀ a b, a < 129 → b < 129 → A a = A b → a = b) (hge : ∀ a, a < 129 → sz ≤ A a) (hOB : ∀ k, A (900 + k) = OB k) (hlen : ρ.length = 129) :
    (∀ a b, a < 129 → b < 129 → A (zv_rc ρ a) = A (zv_rc ρ b) → a = b) ∧ (∀ a, a < 129 → sz ≤ A (zv_rc ρ a)) ∧ ∀ k, A (zv_rc ρ (900 + k)) = OB k := by
  obtain ⟨⟨-, -, a3, a4⟩, -⟩ := zy_rk1 hk
  refine ⟨fun a b ha hb h => a4 a b ha hb (hinj _ _ (a3 a ha) (a3 b hb) h), fun a ha => hge _ (a3 a ha), fun k => ?_⟩
  have : zv_rc ρ (900 + k) = 900 + k := by
    unfold zv_rc
    rw [zv_l_get, List.getElem?_eq_none (by omega)]
  rw [this]
  exact hOB k
theorem zw_lv {ls : Array Slot} {A A2 : Nat → Nat} {i : Int} (h : zv_lv 4 ls A (zw_lc i)) (e0 : A2 0 = A 0) (e1 : A2 1 = A 1) (e9 : A2 900 = A 900) : zv_lv 4 ls A2 (zw_lc i) := by
  obtain ⟨lv, h1, h2, h3⟩ := h
  refine ⟨lv, h1, h2, fun j v hj hv => ?_⟩
  obtain ⟨w, w1, w2⟩ := h3 j v hj hv
  refine ⟨w, ?_, w2⟩
  have nm : ∀ c, c < 5000 → A2 c = A c → zv_w A c w → zv_w A2 c w := fun c hc e h => by
    rw [zv_w_r h hc, ← e]
    exact zv_w_mk hc
  match j, hj with
  | 0, hj => cases hj; exact nm 900 (by decide) e9 w1
  | 1, hj => cases hj; exact nm 0 (by decide) e0 w1
  | 2, hj => cases hj; exact nm 1 (by decide) e1 w1
  | 3, hj => cases hj; exact w1
  | n + 4, hj => cases hj
theorem zw_one (hx : p.tables.exec = Jvm.exec) (hb : c.code = code) (hml : c.maxLocals = 4) (hX : va_X b Lx xs s s.heap) (hbl : b < s.heap.size) (hL : Lx ≤ 3072) (hOB0 : OB 0 = b) (hD : z_Dy s m args z_TB "StarTalesLaw" D z_cl DA (z_tys DA)) (hKX : z_KX OB s.heap.size s s.heap)
    (hend : ∀ pc H ls, decode code pc = .ok (.ireturn, 1) → W p l e room_1 s m args below meth c H [] 600000 7302250 Q (F0 m pc ls [.int 1])) (hbody : zw_body Lx xs Inv)
    {i : Int} (i0 : 0 ≤ i) (i1 : i ≤ 4000) (hnext : i + 6 ≤ Lx → ∀ (f : Nat → Int) (g : Nat → Int → Int) (A : Nat → Nat) (H : Heap) (locs : List Loc) (ls : Array Slot), Inv f g → (∀ a b, a < 129 → b < 129 → A a = A b → a = b) → (∀ a, a < 129 → s.heap.size ≤ A a) → (∀ k, A (900 + k) = OB k) →
      zv_rep D DA z_cl zyE A (zE_F f) (zE_G g) H → va_S (fun q => s.heap.size ≤ q) s.heap H locs → zv_lv 4 ls A (zw_lc (i + 6)) → W p l e room_1 s m args below meth c H locs 129 43489 Q (F0 m 18 ls [])) :
    ∀ (f : Nat → Int) (g : Nat → Int → Int) (A : Nat → Nat) (H : Heap) (locs : List Loc) (ls : Array Slot), Inv f g → (∀ a b, a < 129 → b < 129 → A a = A b → a = b) → (∀ a, a < 129 → s.heap.size ≤ A a) → (∀ k, A (900 + k) = OB k) →
      zv_rep D DA z_cl zyE A (zE_F f) (zE_G g) H → va_S (fun q => s.heap.size ≤ q) s.heap H locs → zv_lv 4 ls A (zw_lc i) → W p l e room_1 s m args below meth c H locs 129 43489 Q (F0 m 18 ls []) := by
  intro f g A H locs ls hI hinj hge hOB hrep hS hlv
  have hB : zw_B (fun pc L S F G => ∀ H2 locs2 ls2 stk2, zv_rep D DA z_cl zyE A F G H2 → zv_frm D z_cl zyE A H H2 → va_S (fun q => s.heap.size ≤ q) H H2 locs2 → zv_lv 4 ls2 A L → zv_st A S stk2 → W p l e room_1 s m args below meth c H2 locs2 129 43489 Q (F0 m pc ls2 stk2)) :=
    ⟨p, l, e, room_1, s, m, args, below, meth, c, Q, OB, D, DA, s.heap.size, A, H, z_TB, 129, 43489, ⟨hx, hb, hml, hD, z_ks12 z_TB (fun _ h => h) _ _ _ _ (fun j r h _ => by cases h)⟩, ⟨hS.1, zs_KX_p, zs_KX_p.2.1 s s.heap H hKX hS.1 (fun q h1 h2 => hS.2.1 q h1 h2), by decide, by decide, by decide, by decide⟩, ⟨zywE, hinj, hge, hOB⟩, fun _ _ _ _ _ => Iff.rfl⟩
  have hA9 : A 900 = b := (hOB 0).trans hOB0
  have hbA : ¬ s.heap.size ≤ b := by omega
  have hR : zw_R Lx xs (fun pc L S F G => ∀ H2 locs2 ls2 stk2, zv_rep D DA z_cl zyE A F G H2 → zv_frm D z_cl zyE A H H2 → va_S (fun q => s.heap.size ≤ q) H H2 locs2 → zv_lv 4 ls2 A L → zv_st A S stk2 → W p l e room_1 s m args below meth c H2 locs2 129 43489 Q (F0 m pc ls2 stk2)) := by
    refine ⟨fun pc L S F G hd k => ?_, fun pc L S F G a hd a0 a1 k => ?_, fun pc L F G hd => ?_⟩
    · intro H2 locs2 ls2 stk2 h1 h2 h3 h4 ⟨w, k', e1, e2, e3⟩
      have e2 : zv_w A 900 w := e2
      have e2 := zv_w_r e2 (by decide)
      rw [hA9] at e2
      subst e2; subst e1
      refine va_slen hx hb hX hbl hbA (zw_S (Nat.le_refl _) hS h3) hd (k H2 locs2 ls2 _ h1 h2 h3 h4 ⟨_, k', rfl, ⟨_, rfl, ?_⟩, e3⟩)
      exact Int32.toInt_ofNat_of_lt (by omega)
    · intro H2 locs2 ls2 stk2 h1 h2 h3 h4 ⟨w, k', e1, ⟨u, e2, e3⟩, w2, k2, e4, e5, e6⟩
      have e5 : zv_w A 900 w2 := e5
      have e5 := zv_w_r e5 (by decide)
      rw [hA9] at e5
      subst e5; subst e4; subst e2; subst e1
      have hcl : u.toNatClampNeg = a.toNat := by show u.toInt.toNat = _; omega
      have hin : vp_in u Lx := by
        intro hh
        rcases hh with hh | hh
        · have := Int32.lt_iff_toInt_lt.mp hh
          have e0 : (0 : Int32).toInt = 0 := rfl
          omega
        · rw [hcl] at hh
          omega
      refine va_sld hx hb hX hbl hbA (zw_S (Nat.le_refl _) hS h3) hin hd ?_
      rw [hcl]
      exact k H2 locs2 ls2 _ h1 h2 h3 h4 ⟨_, k2, rfl, ⟨_, rfl, rfl⟩, e6⟩
    · intro H2 locs2 ls2 stk2 h1 h2 h3 h4 ⟨w, k', e1, ⟨u, e2, e3⟩, e4⟩
      have e4 : k' = [] := e4
      have eu : u = 1 := Int32.toInt.inj (by rw [e3]; rfl)
      subst eu; subst e2; subst e4; subst e1
      have := W.forget (locs := []) (L := locs2) (fun q hq => h3.2.2 q hq) (hend pc H2 ls2 hd)
      exact W.widen (by decide) (by decide) this
  have main := hbody _ hB hR i f g hI i0
  revert hB hR
  intro hB hR
  have go : (fun pc L S F G => ∀ H2 locs2 ls2 stk2, zv_rep D DA z_cl zyE A F G H2 → zv_frm D z_cl zyE A H H2 → va_S (fun q => s.heap.size ≤ q) H H2 locs2 → zv_lv 4 ls2 A L → zv_st A S stk2 → W p l e room_1 s m args below meth c H2 locs2 129 43489 Q (F0 m pc ls2 stk2)) 18 (zw_lc i) [] (zE_F f) (zE_G g) := by
    refine zv_ild (ins := .iload_n 3) (len := 1) hB (by decide +kernel) rfl rfl ?_
    refine zv_ald (ins := .aload_n 0) (len := 1) hB (by decide +kernel) rfl rfl rfl ?_
    refine hR.1 _ _ _ _ _ (by decide +kernel) ?_
    refine zv_con (ins := .bipush 6) (len := 2) hB (by decide +kernel) rfl ?_
    refine zv_isub hB (by decide +kernel) (by omega) (by omega) ?_
    refine zv_cgt hB (off := 1575) (t := 1599) (by decide +kernel) rfl (fun hgt => ?_) fun hle => ?_
    · refine zv_con (ins := .iconst 1) (len := 1) hB (by decide +kernel) rfl ?_
      exact hR.2.2 _ _ _ _ (by decide +kernel)
    · refine main (by omega) (fun f' g' hI2 => ?_) (fun f' g' hI2 => ?_) fun f' g' hI2 => ?_
      · intro H2 locs2 ls2 stk2 h1 h2 h3 h4 h5
        have h5 : stk2 = [] := h5
        subst h5
        exact hnext (by omega) f' g' A H2 locs2 ls2 hI2 hinj hge hOB h1 (zw_S (Nat.le_refl _) hS h3) h4
      · intro H2 locs2 ls2 stk2 h1 h2 h3 h4 h5
        have h5 : stk2 = [] := h5
        subst h5
        obtain ⟨q1, q2, q3⟩ := zw_ren zE_rk1 hinj hge hOB rfl
        exact hnext (by omega) _ _ (fun c => A (zv_rc zE_s1 c)) H2 locs2 ls2 hI2 q1 q2 q3 (zE_sw1 h1) (zw_S (Nat.le_refl _) hS h3) (zw_lv h4 rfl rfl rfl)
      · intro H2 locs2 ls2 stk2 h1 h2 h3 h4 h5
        have h5 : stk2 = [] := h5
        subst h5
        obtain ⟨q1, q2, q3⟩ := zw_ren zE_rk2 hinj hge hOB rfl
        exact hnext (by omega) _ _ (fun c => A (zv_rc zE_s2 c)) H2 locs2 ls2 hI2 q1 q2 q3 (zE_sw2 h1) (zw_S (Nat.le_refl _) hS h3) (zw_lv h4 rfl rfl rfl)
  exact go H locs ls [] hrep zv_frm_rf ⟨Nat.le_refl _, fun _ _ _ => rfl, hS.2.2⟩ hlv rfl
theorem zw_loop (hx : p.tables.exec = Jvm.exec) (hb : c.code = code) (hml : c.maxLocals = 4) (hX : va_X b Lx xs s s.heap) (hbl : b < s.heap.size) (hL : Lx ≤ 3072) (hOB0 : OB 0 = b) (hD : z_Dy s m args z_TB "StarTalesLaw" D z_cl DA (z_tys DA)) (hKX : z_KX OB s.heap.size s s.heap)
    (hend : ∀ pc H ls, decode code pc = .ok (.ireturn, 1) → W p l e room_1 s m args below meth c H [] 600000 7302250 Q (F0 m pc ls [.int 1])) (hbody : zw_body Lx xs Inv) :
    ∀ (k : Nat) (i : Int), (Lx : Int) + 6 - i ≤ k → 0 ≤ i → i ≤ 4000 → ∀ (f : Nat → Int) (g : Nat → Int → Int) (A : Nat → Nat) (H : Heap) (locs : List Loc) (ls : Array Slot), Inv f g → (∀ a b, a < 129 → b < 129 → A a = A b → a = b) → (∀ a, a < 129 → s.heap.size ≤ A a) → (∀ k, A (900 + k) = OB k) →
      zv_rep D DA z_cl zyE A (zE_F f) (zE_G g) H → va_S (fun q => s.heap.size ≤ q) s.heap H locs → zv_lv 4 ls A (zw_lc i) → W p l e room_1 s m args below meth c H locs 129 43489 Q (F0 m 18 ls []) := by
  intro k
  induction k with
  | zero => exact fun i hk i0 i1 => zw_one hx hb hml hX hbl hL hOB0 hD hKX hend hbody i0 i1 fun h => by omega
  | succ k ih => exact fun i hk i0 i1 => zw_one hx hb hml hX hbl hL hOB0 hD hKX hend hbody i0 i1 fun h => ih (i + 6) (by omega) (by omega) (by omega)
end ZWLOOP
end
section
/-! The law from its entry, by what one call of it does. -/
section ZWLAW
variable {p : Program} {l : Launch} {e : Env} {s : State} {m : MethodId} {args : Array Value} {below : List Frame} {meth : Method} {c : Code} {Q : State → Prop}
variable {OB : Nat → Nat} {D : va_G} {DA : Nat → ClassId} {b Lx : Nat} {xs : Nat → Int32} {Inv : (Nat → Int) → (Nat → Int → Int) → Prop}
theorem zw_law (hx : p.tables.exec = Jvm.exec) (hb : c.code = code) (hml : c.maxLocals = 4) (hX : va_X b Lx xs s s.heap) (hbl : b < s.heap.size) (hL : Lx ≤ 3072) (hOB0 : OB 0 = b) (hD : z_Dy s m args z_TB "StarTalesLaw" D z_cl DA (z_tys DA)) (hKX : z_KX OB s.heap.size s s.heap)
    (hend : ∀ pc H ls, decode code pc = .ok (.ireturn, 1) → W p l e room_1 s m args below meth c H [] 600000 7302250 Q (F0 m pc ls [.int 1])) (hbody : zw_body Lx xs Inv) (hI0 : ∀ g, y0_g g → Inv y0_f0 g)
    {ls : Array Slot} (hls : z_ls 4 ls [.ref b, .int (Int32.ofNat Lx)] [(0, 0)]) : W p l e room_1 s m args below meth c s.heap [] 0 0 Q (F0 m 0 ls []) := by
  refine zy_start (TY := z_TYs) (PHI := z_PH) (PHS := z_PS) (FT := z_FT) (MT := z_MT) (SG := z_sL) (ce := z_eL) (mk := (129, 43489)) (nw := z_nw) (hpc := 18) (tx := 86) (tm := 128) (N := 3072) hx hb hml (by decide) hL hOB0 hD zs_KX_p hKX (z_kSL z_TB (fun _ h => h)) rfl z_phk z_oL hend z_kS (fun T H locs ls x m2 hH => ?_) hls
  intro U hU X
  have hsz : H.size ≤ s.heap.size + 129 := by rw [← hU]; exact X.heapSize
  obtain ⟨A, g, h1, h2, h3, h4, h5, h6, h7⟩ := y0_rep hH hsz
  obtain ⟨⟨-, -, hS⟩, -, ⟨lv, k1, k2, k3, k4, k5, k6⟩, -⟩ := hH
  have hA9 : A 900 = b := (h3 0).trans hOB0
  refine zw_loop hx hb hml hX hbl hL hOB0 hD hKX hend hbody (Lx + 6) 0 (by omega) (by decide) (by decide) y0_f0 g A H locs ls (hI0 g h7) h1 h2 h3 h6 hS ⟨lv, k1, k2, fun j v hj hv => ?_⟩ U hU X
  match j, hj with
  | 0, hj => cases hj; exact ⟨_, by show zv_w A 900 (.ref b); rw [← hA9]; exact zv_w_mk (by decide), k3⟩
  | 1, hj => cases hj; exact ⟨_, by show zv_w A 0 (.ref x); rw [← h4]; exact zv_w_mk (by decide), k4⟩
  | 2, hj => cases hj; exact ⟨_, by show zv_w A 1 (.ref m2); rw [← h5]; exact zv_w_mk (by decide), k5⟩
  | 3, hj => cases hj; exact ⟨_, ⟨0, rfl, rfl⟩, k6⟩
  | n + 4, hj => cases hj
end ZWLAW
end
section
/-! What holds between class and reference, call by call. -/
def zI (f : Nat → Int) (g : Nat → Int → Int) : Prop :=
  (∃ L, yl_R L (g 20) (g 22) (f 32) (f 30) (f 35) (f 34) (f 36) (g 17) (g 44) (g 18) (g 19) (f 83) (g 75) (g 76) (g 77) (g 78) (g 79)) ∧ (yk_sky (f 0) (f 1) (f 28) (f 2) (f 3) (f 4) (f 48) (g 0) (g 1) (g 2) (g 3) (g 4) (g 67)) ∧ (yk_sea (f 5) (g 5) (g 6) (g 67)) ∧ (yk_tape (f 6) (f 74) (g 7) (g 68)) ∧ ((f 88 = f 37 ∧ f 89 = f 38 ∧ yk_tl (f 37) (f 38) (g 26) (g 85) (g 86))) ∧ ((f 96 = f 73 ∧ (f 73 ≠ 0 → yk_sky (f 65) (f 66) (f 67) (f 68) (f 69) (f 70) (f 71) (g 60) (g 61) (g 62) (g 63) (g 64) (g 107) ∧ yk_sea (f 72) (g 66) (g 65) (g 107)))) ∧ (yw_so (g 28)) ∧ (yw_rg 264 (g 53)) ∧ (yw_rg 264 (g 55))
theorem zI.law {f : Nat → Int} {g : Nat → Int → Int} (h : zI f g) : ∃ L, yl_R L (g 20) (g 22) (f 32) (f 30) (f 35) (f 34) (f 36) (g 17) (g 44) (g 18) (g 19) (f 83) (g 75) (g 76) (g 77) (g 78) (g 79) := h.1
theorem zI.sky {f : Nat → Int} {g : Nat → Int → Int} (h : zI f g) : yk_sky (f 0) (f 1) (f 28) (f 2) (f 3) (f 4) (f 48) (g 0) (g 1) (g 2) (g 3) (g 4) (g 67) := h.2.1
theorem zI.sea {f : Nat → Int} {g : Nat → Int → Int} (h : zI f g) : yk_sea (f 5) (g 5) (g 6) (g 67) := h.2.2.1
theorem zI.tape {f : Nat → Int} {g : Nat → Int → Int} (h : zI f g) : yk_tape (f 6) (f 74) (g 7) (g 68) := h.2.2.2.1
theorem zI.tale {f : Nat → Int} {g : Nat → Int → Int} (h : zI f g) : (f 88 = f 37 ∧ f 89 = f 38 ∧ yk_tl (f 37) (f 38) (g 26) (g 85) (g 86)) := h.2.2.2.2.1
theorem zI.kept {f : Nat → Int} {g : Nat → Int → Int} (h : zI f g) : (f 96 = f 73 ∧ (f 73 ≠ 0 → yk_sky (f 65) (f 66) (f 67) (f 68) (f 69) (f 70) (f 71) (g 60) (g 61) (g 62) (g 63) (g 64) (g 107) ∧ yk_sea (f 72) (g 66) (g 65) (g 107))) := h.2.2.2.2.2.1
theorem zI.so {f : Nat → Int} {g : Nat → Int → Int} (h : zI f g) : yw_so (g 28) := h.2.2.2.2.2.2.1
theorem zI.le {f : Nat → Int} {g : Nat → Int → Int} (h : zI f g) : yw_rg 264 (g 53) := h.2.2.2.2.2.2.2.1
theorem zI.ln {f : Nat → Int} {g : Nat → Int → Int} (h : zI f g) : yw_rg 264 (g 55) := h.2.2.2.2.2.2.2.2
section ZWI
variable {good : Nat → List zNV → List zNV → List zNV → List (Int → Int) → Prop} {Lx : Nat} {xs : Nat → Int32} {i : Int} {S F : List zNV} {G : List (Int → Int)}
abbrev zw_ai (pc : Nat) (j : Int) : Prop := decode code pc = .ok (.aload_n 0, 1) ∧ decode code (pc + 1) = .ok (.iload_n 3, 1) ∧ decode code (pc + 2) = .ok (.iconst j, 1) ∧ decode code (pc + 3) = .ok (.iadd, 1) ∧ decode code (pc + 4) = .ok (.iaload, 1)
abbrev zw_a (xs : Nat → Int32) (i j : Int) : Int := (xs (i + j).toNat).toInt
theorem zw_arg (hB : zw_B good) (hR : zw_R Lx xs good) (i0 : 0 ≤ i) (i6 : i + 6 ≤ Lx) (hL : Lx ≤ 3072) {pc : Nat} {j : Int} (h : zw_ai pc j) (j0 : 0 ≤ j) (j5 : j ≤ 5) (hc : zv_cst lwK (.iconst j) 1 = some j) (k : good (pc + 5) (zw_lc i) (.inl (zw_a xs i j) :: S) F G) : good pc (zw_lc i) S F G := by
  obtain ⟨h1, h2, h3, h4, h5⟩ := h
  refine zv_ald (ins := .aload_n 0) (len := 1) hB h1 rfl rfl rfl ?_
  refine zv_ild (ins := .iload_n 3) (len := 1) hB h2 rfl rfl ?_
  refine zv_con (ins := .iconst j) (len := 1) hB h3 hc ?_
  refine zv_iadd hB h4 (by omega) (by omega) ?_
  exact hR.2.1 _ _ _ _ _ _ h5 (by omega) (by omega) k
theorem zw_tail (hB : zw_B good) (i0 : 0 ≤ i) (i6 : i + 6 ≤ Lx) (hL : Lx ≤ 3072) (k : good 18 (zw_lc (i + 6)) [] F G) : good 1593 (zw_lc i) [] F G := by
  refine zv_iinc (i := 3) (n := 6) hB (by decide +kernel) rfl rfl (by omega) (by omega) ?_
  exact zv_goto hB (off := -1578) (t := 18) (by decide +kernel) rfl k
end ZWI
theorem zI_0 {g : Nat → Int → Int} (h : y0_g g) : zI y0_f0 g := by
  obtain ⟨hz, h1, h2, h3, h4⟩ := h
  have z : ∀ q ∈ y0_Z, ∀ i : Int, 0 ≤ i → i < (q.2.2 : Nat) → g q.1 i = 0 := hz
  have hsea : yk_sea (y0_f0 5) (g 5) (g 6) (g 67) := by
    refine ⟨⟨by decide, by decide, h4 127 (by decide) (by decide) (by decide) (by decide) (by decide), fun s s0 s1 => ?_, fun y y0 y1 => ?_, fun x y x0 x1 y0 y1 => ?_⟩, fun s s0 s1 => ?_⟩
    · rw [h4 _ (by omega) (by omega) (by omega) (by omega) (by omega), z (5, 9, 6) (by decide) s s0 s1]
    · rw [z (6, 10, 12) (by decide) y y0 y1]; decide
    · rw [h4 _ (by omega) (by omega) (by omega) (by omega) (by omega), z (6, 10, 12) (by decide) y y0 y1, if_neg]
      unfold zi_tb
      simp
    · rw [z (5, 9, 6) (by decide) s s0 s1]; decide
  refine ⟨⟨(0, fun _ => 0, fun _ _ => none, fun _ _ => none), ⟨rfl, by decide, by decide, rfl⟩, fun q q0 q1 => absurd q1 (by have : y0_f0 32 = 0 := rfl; omega), 0, by decide, fun q q0 q1 => absurd q1 (by show ¬ q < (0 : Int); omega), ⟨⟨Or.inr ⟨rfl, fun q q0 q1 => absurd q1 (by show ¬ q < (0 : Int); omega)⟩, Or.inr ⟨rfl, fun q q0 q1 => absurd q1 (by show ¬ q < (0 : Int); omega)⟩⟩, ⟨fun _ q q0 q1 => absurd q1 (by show ¬ q < (0 : Int); omega), fun _ q q0 q1 => absurd q1 (by show ¬ q < (0 : Int); omega), fun _ q q0 q1 => absurd q1 (by show ¬ q < (0 : Int); omega)⟩, fun _ q q0 q1 => absurd q1 (by show ¬ q < (0 : Int); omega), fun _ q q0 q1 => absurd q1 (by show ¬ q < (0 : Int); omega)⟩, fun j j0 j1 => by omega⟩, ?_, hsea, ?_, ⟨rfl, rfl, ?_⟩, ⟨rfl, fun h => absurd rfl h⟩, fun k k0 k1 => ?_, fun j j0 j1 => ?_, fun j j0 j1 => ?_⟩
  · refine ⟨⟨⟨by decide, by decide⟩, h4 126 (by decide) (by decide) (by decide) (by decide) (by decide)⟩, ⟨by decide, h4 128 (by decide) (by decide) (by decide) (by decide) (by decide)⟩, h4 129 (by decide) (by decide) (by decide) (by decide) (by decide), ⟨⟨by decide, by decide⟩, h4 130 (by decide) (by decide) (by decide) (by decide) (by decide)⟩, ⟨by decide, h1⟩, ⟨by decide, h2⟩, ⟨by decide, h3⟩, fun i i0 i1 => ?_⟩
    rw [z (0, 3, 24) (by decide) i i0 i1, z (1, 4, 24) (by decide) i i0 i1, z (2, 5, 24) (by decide) i i0 i1, z (3, 6, 24) (by decide) i i0 i1, z (4, 7, 24) (by decide) i i0 i1, h4 i (by omega) (by omega) (by omega) (by omega) (by omega), h4 (24 + i) (by omega) (by omega) (by omega) (by omega) (by omega), h4 (48 + i) (by omega) (by omega) (by omega) (by omega) (by omega), h4 (72 + i) (by omega) (by omega) (by omega) (by omega) (by omega), h4 (96 + i) (by omega) (by omega) (by omega) (by omega) (by omega)]
    exact ⟨by decide, by decide, fun _ => ⟨rfl, rfl, rfl, rfl, rfl⟩⟩
  · refine ⟨rfl, by decide, by decide, fun j j0 j1 => ?_⟩
    rw [z (7, 12, 220) (by decide) j j0 j1, z (68, 87, 220) (by decide) j j0 j1]
    decide
  · refine ⟨by decide, fun i i0 i1 => absurd i1 (by show ¬ i < (0 : Int); omega), fun i j i0 i1 i2 => absurd i2 (by show ¬ j < (0 : Int); omega), ⟨by decide, by decide⟩, fun b => ⟨fun hb => ?_, fun ⟨i, i0, i1, _⟩ => absurd i1 (by show ¬ i < (0 : Int); omega)⟩, fun a a0 a1 => ⟨?_, fun b => ⟨fun hb => ?_, fun ⟨i, i0, i1, _⟩ => absurd i1 (by show ¬ i < (0 : Int); omega)⟩⟩⟩
    · have hb : zb 0 b = true := hb
      rw [zb_0] at hb; cases hb
    · rw [z (26, 38, 8) (by decide) a a0 a1]; exact ⟨by decide, by decide⟩
    · rw [z (26, 38, 8) (by decide) a a0 a1, zb_0] at hb; cases hb
  · rw [z (28, 40, 8) (by decide) k k0 k1]; decide
  · rw [z (53, 69, 264) (by decide) j j0 j1]; decide
  · rw [z (55, 71, 264) (by decide) j j0 j1]; decide
end
section
/-! Small steps of the law's cases. -/
section ZWH
variable {f : Nat → Int} {g : Nat → Int → Int}
theorem zI_tl (h : zI f g) : yk_tl (f 88) (f 89) (g 26) (g 85) (g 86) := by
  obtain ⟨h1, h2, h3⟩ := h.tale
  rw [h1, h2]; exact h3
theorem zI_sky (h : zI f g) {m2 : Int → Int} (e : ∀ j, 0 ≤ j → j < 422 → m2 j = g 67 j) : yk_sky (f 0) (f 1) (f 28) (f 2) (f 3) (f 4) (f 48) (g 0) (g 1) (g 2) (g 3) (g 4) m2 :=
  yk_sky_cg h.sky (fun _ _ _ => rfl) (fun _ _ _ => rfl) (fun _ _ _ => rfl) (fun _ _ _ => rfl) (fun _ _ _ => rfl) e
theorem zI_sea (h : zI f g) {m2 : Int → Int} (e : ∀ j, 0 ≤ j → j < 422 → m2 j = g 67 j) : yk_sea (f 5) (g 5) (g 6) m2 :=
  yk_sea_cg h.sea (fun _ _ _ => rfl) (fun _ _ _ => rfl) e
theorem zI_size (h : zI f g) {a b c : Int} (e1 : a = c) (e2 : b = (c : Int)) (hc : c = f 6 ∨ c = 0) : yk_tape a b (g 7) (g 68) := by
  obtain ⟨h1, h2, h3, h4⟩ := h.tape
  exact ⟨by omega, by omega, by omega, h4⟩
end ZWH
section ZWB
variable {good : Nat → List zNV → List zNV → List zNV → List (Int → Int) → Prop} {L S F : List zNV} {G : List (Int → Int)} {a : Int}
theorem zw_bool (hB : zw_B good) {pc : Nat} (h1 : decode code pc = .ok (.ifCond .eq 7, 3)) (h2 : decode code (pc + 3) = .ok (.iconst 1, 1)) (h3 : decode code (pc + 4) = .ok (.goto 4, 3)) (h4 : decode code (pc + 7) = .ok (.iconst 0, 1)) (t1 : z_to pc 7 = some (pc + 7)) (t2 : z_to (pc + 4) 4 = some (pc + 8)) (k : good (pc + 8) L (.inl (if a = 0 then 0 else 1) :: S) F G) : good pc L (.inl a :: S) F G := by
  refine zv_zeq hB h1 t1 (fun e => ?_) fun e => ?_
  · refine zv_con (ins := .iconst 0) (len := 1) hB h4 rfl ?_
    rw [if_pos e] at k
    exact k
  · refine zv_con (ins := .iconst 1) (len := 1) hB h2 rfl ?_
    refine zv_goto hB h3 t2 ?_
    rw [if_neg e] at k
    exact k
end ZWB
end
section
/-! The calls of the law, case by case. -/
theorem zc_star {good : Nat → List zNV → List zNV → List zNV → List (Int → Int) → Prop} {Lx : Nat} {xs : Nat → Int32} {i : Int} {f : Nat → Int} {g : Nat → Int → Int} (hL : Lx ≤ 3072) (hB : zw_B good) (hR : zw_R Lx xs good) (i0 : 0 ≤ i) (i6 : i + 6 ≤ Lx) (hI : zI f g) (k : ∀ f2 g2, zI f2 g2 → good 18 (zw_lc (i + 6)) [] (zE_F f2) (zE_G g2)) : good 204 (zw_lc i) [] (zE_F f) (zE_G g) := by
  obtain ⟨L, R⟩ := hI.law
  have tl := zI_tl hI
  obtain ⟨v0, v1, v2, v3, v4, v5, v6, v7, e1, e2, k', fr⟩ := yo_star (i := (zw_a xs i 1)) (c := (zw_a xs i 2)) (r := (zw_a xs i 3)) (b := (zw_a xs i 4)) (t := (f 0)) (co := (g 0)) (ro := (g 1)) (br := (g 2)) (wc := (g 3)) (wr := (g 4)) (m := (g 67)) hI.sky
  refine zv_ald (ins := .aload_n 1) (len := 1) hB (by decide +kernel) rfl rfl rfl ?_
  refine zw_arg (j := 1) hB hR i0 i6 hL (by decide +kernel) (by decide) (by decide) rfl ?_
  refine zw_arg (j := 2) hB hR i0 i6 hL (by decide +kernel) (by decide) (by decide) rfl ?_
  refine zw_arg (j := 3) hB hR i0 i6 hL (by decide +kernel) (by decide) (by decide) rfl ?_
  refine zw_arg (j := 4) hB hR i0 i6 hL (by decide +kernel) (by decide) (by decide) rfl ?_
  refine zv_cv (i := 13) (c := 0) (mm2 := zxm14) (rm2 := (1, 60)) (va := [.inl (zw_a xs i 1), .inl (zw_a xs i 2), .inl (zw_a xs i 3), .inl (zw_a xs i 4)]) (S := []) hB (zE_up (by rfl) (by rfl) (by rfl) (by rfl) (by rfl) (zo_X_star e1)) (by decide +kernel) rfl rfl (by decide) (by decide) rfl ?_
  refine zv_pop hB (by decide +kernel) rfl ?_
  refine zv_ald (ins := .aload_n 2) (len := 1) hB (by decide +kernel) rfl rfl rfl ?_
  refine zw_arg (j := 1) hB hR i0 i6 hL (by decide +kernel) (by decide) (by decide) rfl ?_
  refine zw_arg (j := 2) hB hR i0 i6 hL (by decide +kernel) (by decide) (by decide) rfl ?_
  refine zw_arg (j := 3) hB hR i0 i6 hL (by decide +kernel) (by decide) (by decide) rfl ?_
  refine zw_arg (j := 4) hB hR i0 i6 hL (by decide +kernel) (by decide) (by decide) rfl ?_
  refine zv_cv (i := 17) (c := 1) (mm2 := zxm199) (rm2 := (1, 60)) (va := [.inl (zw_a xs i 1), .inl (zw_a xs i 2), .inl (zw_a xs i 3), .inl (zw_a xs i 4)]) (S := []) hB (zE_up (by rfl) (by rfl) (by rfl) (by rfl) (by rfl) (zo_M_star e2)) (by decide +kernel) rfl rfl (by decide) (by decide) rfl ?_
  refine zv_pop hB (by decide +kernel) rfl ?_
  refine zv_goto hB (off := 1339) (t := 1593) (by decide +kernel) rfl ?_
  exact zw_tail hB i0 i6 hL (k _ _ ⟨hI.law, k', yk_sea_fr hI.sea fun j hj => fr j (by omega) (by omega), hI.tape, hI.tale, hI.kept, hI.so, hI.le, hI.ln⟩)
theorem zc_walk {good : Nat → List zNV → List zNV → List zNV → List (Int → Int) → Prop} {Lx : Nat} {xs : Nat → Int32} {i : Int} {f : Nat → Int} {g : Nat → Int → Int} (hL : Lx ≤ 3072) (hB : zw_B good) (hR : zw_R Lx xs good) (i0 : 0 ≤ i) (i6 : i + 6 ≤ Lx) (hI : zI f g) (k : ∀ f2 g2, zI f2 g2 → good 18 (zw_lc (i + 6)) [] (zE_F f2) (zE_G g2)) : good 257 (zw_lc i) [] (zE_F f) (zE_G g) := by
  obtain ⟨L, R⟩ := hI.law
  have tl := zI_tl hI
  obtain ⟨v0, v1, v2, v3, e1, e2, k', fr⟩ := yo_walk (i := (zw_a xs i 1)) (c := (zw_a xs i 2)) (r := (zw_a xs i 3)) (t := (f 0)) (wc := (g 3)) (wr := (g 4)) (m := (g 67)) hI.sky
  refine zv_ald (ins := .aload_n 1) (len := 1) hB (by decide +kernel) rfl rfl rfl ?_
  refine zw_arg (j := 1) hB hR i0 i6 hL (by decide +kernel) (by decide) (by decide) rfl ?_
  refine zw_arg (j := 2) hB hR i0 i6 hL (by decide +kernel) (by decide) (by decide) rfl ?_
  refine zw_arg (j := 3) hB hR i0 i6 hL (by decide +kernel) (by decide) (by decide) rfl ?_
  refine zv_cv (i := 18) (c := 0) (mm2 := zxm17) (rm2 := (1, 60)) (va := [.inl (zw_a xs i 1), .inl (zw_a xs i 2), .inl (zw_a xs i 3)]) (S := []) hB (zE_up (by rfl) (by rfl) (by rfl) (by rfl) (by rfl) (zo_X_walk e1)) (by decide +kernel) rfl rfl (by decide) (by decide) rfl ?_
  refine zv_pop hB (by decide +kernel) rfl ?_
  refine zv_ald (ins := .aload_n 2) (len := 1) hB (by decide +kernel) rfl rfl rfl ?_
  refine zw_arg (j := 1) hB hR i0 i6 hL (by decide +kernel) (by decide) (by decide) rfl ?_
  refine zw_arg (j := 2) hB hR i0 i6 hL (by decide +kernel) (by decide) (by decide) rfl ?_
  refine zw_arg (j := 3) hB hR i0 i6 hL (by decide +kernel) (by decide) (by decide) rfl ?_
  refine zv_cv (i := 22) (c := 1) (mm2 := zxm202) (rm2 := (2, 120)) (va := [.inl (zw_a xs i 1), .inl (zw_a xs i 2), .inl (zw_a xs i 3)]) (S := []) hB (zE_up (by rfl) (by rfl) (by rfl) (by rfl) (by rfl) (zo_M_walk e2)) (by decide +kernel) rfl rfl (by decide) (by decide) rfl ?_
  refine zv_pop hB (by decide +kernel) rfl ?_
  refine zv_goto hB (off := 1296) (t := 1593) (by decide +kernel) rfl ?_
  exact zw_tail hB i0 i6 hL (k _ _ ⟨hI.law, k', yk_sea_fr hI.sea fun j hj => fr j (by omega), hI.tape, hI.tale, hI.kept, hI.so, hI.le, hI.ln⟩)
theorem zc_gone {good : Nat → List zNV → List zNV → List zNV → List (Int → Int) → Prop} {Lx : Nat} {xs : Nat → Int32} {i : Int} {f : Nat → Int} {g : Nat → Int → Int} (hL : Lx ≤ 3072) (hB : zw_B good) (hR : zw_R Lx xs good) (i0 : 0 ≤ i) (i6 : i + 6 ≤ Lx) (hI : zI f g) (k : ∀ f2 g2, zI f2 g2 → good 18 (zw_lc (i + 6)) [] (zE_F f2) (zE_G g2)) : good 300 (zw_lc i) [] (zE_F f) (zE_G g) := by
  obtain ⟨L, R⟩ := hI.law
  have tl := zI_tl hI
  obtain ⟨v0, v1, v2, e1, e2, k', fr⟩ := yo_gone (i := (zw_a xs i 1)) (t := (f 0)) (m := (g 67)) hI.sky
  refine zv_ald (ins := .aload_n 1) (len := 1) hB (by decide +kernel) rfl rfl rfl ?_
  refine zw_arg (j := 1) hB hR i0 i6 hL (by decide +kernel) (by decide) (by decide) rfl ?_
  refine zv_cv (i := 23) (c := 0) (mm2 := zxm19) (rm2 := (1, 60)) (va := [.inl (zw_a xs i 1)]) (S := []) hB (zE_up (by rfl) (by rfl) (by rfl) (by rfl) (by rfl) (zo_X_gone e1)) (by decide +kernel) rfl rfl (by decide) (by decide) rfl ?_
  refine zv_pop hB (by decide +kernel) rfl ?_
  refine zv_ald (ins := .aload_n 2) (len := 1) hB (by decide +kernel) rfl rfl rfl ?_
  refine zw_arg (j := 1) hB hR i0 i6 hL (by decide +kernel) (by decide) (by decide) rfl ?_
  refine zv_cv (i := 27) (c := 1) (mm2 := zxm205) (rm2 := (2, 120)) (va := [.inl (zw_a xs i 1)]) (S := []) hB (zE_up (by rfl) (by rfl) (by rfl) (by rfl) (by rfl) (zo_M_gone e2)) (by decide +kernel) rfl rfl (by decide) (by decide) rfl ?_
  refine zv_pop hB (by decide +kernel) rfl ?_
  refine zv_goto hB (off := 1273) (t := 1593) (by decide +kernel) rfl ?_
  exact zw_tail hB i0 i6 hL (k _ _ ⟨hI.law, k', yk_sea_fr hI.sea fun j hj => fr j (by omega), hI.tape, hI.tale, hI.kept, hI.so, hI.le, hI.ln⟩)
theorem zc_hour {good : Nat → List zNV → List zNV → List zNV → List (Int → Int) → Prop} {Lx : Nat} {xs : Nat → Int32} {i : Int} {f : Nat → Int} {g : Nat → Int → Int} (hL : Lx ≤ 3072) (hB : zw_B good) (hR : zw_R Lx xs good) (i0 : 0 ≤ i) (i6 : i + 6 ≤ Lx) (hI : zI f g) (k : ∀ f2 g2, zI f2 g2 → good 18 (zw_lc (i + 6)) [] (zE_F f2) (zE_G g2)) : good 323 (zw_lc i) [] (zE_F f) (zE_G g) := by
  obtain ⟨L, R⟩ := hI.law
  have tl := zI_tl hI
  obtain ⟨v0, v1, v2, e1, e2, k', fr⟩ := yo_hour (n := (zw_a xs i 1)) (h := (f 1)) (m := (g 67)) hI.sky
  refine zv_ald (ins := .aload_n 1) (len := 1) hB (by decide +kernel) rfl rfl rfl ?_
  refine zw_arg (j := 1) hB hR i0 i6 hL (by decide +kernel) (by decide) (by decide) rfl ?_
  refine zv_cv (i := 28) (c := 0) (mm2 := zxm20) (rm2 := (1, 60)) (va := [.inl (zw_a xs i 1)]) (S := []) hB (zE_up (by rfl) (by rfl) (by rfl) (by rfl) (by rfl) (zo_X_hour e1)) (by decide +kernel) rfl rfl (by decide) (by decide) rfl ?_
  refine zv_pop hB (by decide +kernel) rfl ?_
  refine zv_ald (ins := .aload_n 2) (len := 1) hB (by decide +kernel) rfl rfl rfl ?_
  refine zw_arg (j := 1) hB hR i0 i6 hL (by decide +kernel) (by decide) (by decide) rfl ?_
  refine zv_cv (i := 31) (c := 1) (mm2 := zxm206) (rm2 := (1, 60)) (va := [.inl (zw_a xs i 1)]) (S := []) hB (zE_up (by rfl) (by rfl) (by rfl) (by rfl) (by rfl) (zo_M_hour e2)) (by decide +kernel) rfl rfl (by decide) (by decide) rfl ?_
  refine zv_pop hB (by decide +kernel) rfl ?_
  refine zv_goto hB (off := 1250) (t := 1593) (by decide +kernel) rfl ?_
  exact zw_tail hB i0 i6 hL (k _ _ ⟨hI.law, k', yk_sea_fr hI.sea fun j hj => fr j (by omega), hI.tape, hI.tale, hI.kept, hI.so, hI.le, hI.ln⟩)
theorem zc_clouds {good : Nat → List zNV → List zNV → List zNV → List (Int → Int) → Prop} {Lx : Nat} {xs : Nat → Int32} {i : Int} {f : Nat → Int} {g : Nat → Int → Int} (hL : Lx ≤ 3072) (hB : zw_B good) (hR : zw_R Lx xs good) (i0 : 0 ≤ i) (i6 : i + 6 ≤ Lx) (hI : zI f g) (k : ∀ f2 g2, zI f2 g2 → good 18 (zw_lc (i + 6)) [] (zE_F f2) (zE_G g2)) : good 346 (zw_lc i) [] (zE_F f) (zE_G g) := by
  obtain ⟨L, R⟩ := hI.law
  have tl := zI_tl hI
  obtain ⟨v0, v1, v2, e1, e2, k', fr⟩ := yo_clouds (n := (zw_a xs i 1)) (cl := (f 2)) (m := (g 67)) hI.sky
  refine zv_ald (ins := .aload_n 1) (len := 1) hB (by decide +kernel) rfl rfl rfl ?_
  refine zw_arg (j := 1) hB hR i0 i6 hL (by decide +kernel) (by decide) (by decide) rfl ?_
  refine zv_cv (i := 32) (c := 0) (mm2 := zxm21) (rm2 := (1, 60)) (va := [.inl (zw_a xs i 1)]) (S := []) hB (zE_up (by rfl) (by rfl) (by rfl) (by rfl) (by rfl) (zo_X_clouds e1)) (by decide +kernel) rfl rfl (by decide) (by decide) rfl ?_
  refine zv_pop hB (by decide +kernel) rfl ?_
  refine zv_ald (ins := .aload_n 2) (len := 1) hB (by decide +kernel) rfl rfl rfl ?_
  refine zw_arg (j := 1) hB hR i0 i6 hL (by decide +kernel) (by decide) (by decide) rfl ?_
  refine zv_cv (i := 35) (c := 1) (mm2 := zxm207) (rm2 := (1, 60)) (va := [.inl (zw_a xs i 1)]) (S := []) hB (zE_up (by rfl) (by rfl) (by rfl) (by rfl) (by rfl) (zo_M_clouds e2)) (by decide +kernel) rfl rfl (by decide) (by decide) rfl ?_
  refine zv_pop hB (by decide +kernel) rfl ?_
  refine zv_goto hB (off := 1227) (t := 1593) (by decide +kernel) rfl ?_
  exact zw_tail hB i0 i6 hL (k _ _ ⟨hI.law, k', yk_sea_fr hI.sea fun j hj => fr j (by omega), hI.tape, hI.tale, hI.kept, hI.so, hI.le, hI.ln⟩)
theorem zc_sight {good : Nat → List zNV → List zNV → List zNV → List (Int → Int) → Prop} {Lx : Nat} {xs : Nat → Int32} {i : Int} {f : Nat → Int} {g : Nat → Int → Int} (hL : Lx ≤ 3072) (hB : zw_B good) (hR : zw_R Lx xs good) (i0 : 0 ≤ i) (i6 : i + 6 ≤ Lx) (hI : zI f g) (k : ∀ f2 g2, zI f2 g2 → good 18 (zw_lc (i + 6)) [] (zE_F f2) (zE_G g2)) : good 369 (zw_lc i) [] (zE_F f) (zE_G g) := by
  obtain ⟨L, R⟩ := hI.law
  have tl := zI_tl hI
  obtain ⟨v0, v1, v2, v3, e1, e2, k', fr⟩ := yo_sight (n := (zw_a xs i 1)) (n2 := (zw_a xs i 2)) (sc := (f 3)) (sr := (f 4)) (m := (g 67)) hI.sky
  refine zv_ald (ins := .aload_n 1) (len := 1) hB (by decide +kernel) rfl rfl rfl ?_
  refine zw_arg (j := 1) hB hR i0 i6 hL (by decide +kernel) (by decide) (by decide) rfl ?_
  refine zw_arg (j := 2) hB hR i0 i6 hL (by decide +kernel) (by decide) (by decide) rfl ?_
  refine zv_cv (i := 36) (c := 0) (mm2 := zxm22) (rm2 := (1, 60)) (va := [.inl (zw_a xs i 1), .inl (zw_a xs i 2)]) (S := []) hB (zE_up (by rfl) (by rfl) (by rfl) (by rfl) (by rfl) (zo_X_sight e1)) (by decide +kernel) rfl rfl (by decide) (by decide) rfl ?_
  refine zv_pop hB (by decide +kernel) rfl ?_
  refine zv_ald (ins := .aload_n 2) (len := 1) hB (by decide +kernel) rfl rfl rfl ?_
  refine zw_arg (j := 1) hB hR i0 i6 hL (by decide +kernel) (by decide) (by decide) rfl ?_
  refine zw_arg (j := 2) hB hR i0 i6 hL (by decide +kernel) (by decide) (by decide) rfl ?_
  refine zv_cv (i := 40) (c := 1) (mm2 := zxm208) (rm2 := (1, 60)) (va := [.inl (zw_a xs i 1), .inl (zw_a xs i 2)]) (S := []) hB (zE_up (by rfl) (by rfl) (by rfl) (by rfl) (by rfl) (zo_M_sight e2)) (by decide +kernel) rfl rfl (by decide) (by decide) rfl ?_
  refine zv_pop hB (by decide +kernel) rfl ?_
  refine zv_goto hB (off := 1194) (t := 1593) (by decide +kernel) rfl ?_
  exact zw_tail hB i0 i6 hL (k _ _ ⟨hI.law, k', yk_sea_fr hI.sea fun j hj => fr j (by omega) (by omega), hI.tape, hI.tale, hI.kept, hI.so, hI.le, hI.ln⟩)
theorem zc_land {good : Nat → List zNV → List zNV → List zNV → List (Int → Int) → Prop} {Lx : Nat} {xs : Nat → Int32} {i : Int} {f : Nat → Int} {g : Nat → Int → Int} (hL : Lx ≤ 3072) (hB : zw_B good) (hR : zw_R Lx xs good) (i0 : 0 ≤ i) (i6 : i + 6 ≤ Lx) (hI : zI f g) (k : ∀ f2 g2, zI f2 g2 → good 18 (zw_lc (i + 6)) [] (zE_F f2) (zE_G g2)) : good 402 (zw_lc i) [] (zE_F f) (zE_G g) := by
  obtain ⟨L, R⟩ := hI.law
  have tl := zI_tl hI
  obtain ⟨v0, v1, v2, e1, e2, z', fr⟩ := yo_land (x := (zw_a xs i 1)) (y := (zw_a xs i 2)) (b := (if zw_a xs i 3 = 0 then 0 else 1)) (ts := (f 5)) (gp := (g 5)) (gl := (g 6)) (m := (g 67)) hI.sea
  refine zv_ald (ins := .aload_n 1) (len := 1) hB (by decide +kernel) rfl rfl rfl ?_
  refine zw_arg (j := 1) hB hR i0 i6 hL (by decide +kernel) (by decide) (by decide) rfl ?_
  refine zw_arg (j := 2) hB hR i0 i6 hL (by decide +kernel) (by decide) (by decide) rfl ?_
  refine zw_arg (j := 3) hB hR i0 i6 hL (by decide +kernel) (by decide) (by decide) rfl ?_
  refine zw_bool (pc := 418) hB (by decide +kernel) (by decide +kernel) (by decide +kernel) (by decide +kernel) rfl rfl ?_
  refine zv_cv (i := 41) (c := 0) (mm2 := zxm23) (rm2 := (2, 120)) (va := [.inl (zw_a xs i 1), .inl (zw_a xs i 2), .inl (if zw_a xs i 3 = 0 then 0 else 1)]) (S := []) hB (zE_up (by rfl) (by rfl) (by rfl) (by rfl) (by rfl) (zo_X_land e1)) (by decide +kernel) rfl rfl (by decide) (by decide) rfl ?_
  refine zv_pop hB (by decide +kernel) rfl ?_
  refine zv_ald (ins := .aload_n 2) (len := 1) hB (by decide +kernel) rfl rfl rfl ?_
  refine zw_arg (j := 1) hB hR i0 i6 hL (by decide +kernel) (by decide) (by decide) rfl ?_
  refine zw_arg (j := 2) hB hR i0 i6 hL (by decide +kernel) (by decide) (by decide) rfl ?_
  refine zw_arg (j := 3) hB hR i0 i6 hL (by decide +kernel) (by decide) (by decide) rfl ?_
  refine zw_bool (pc := 446) hB (by decide +kernel) (by decide +kernel) (by decide +kernel) (by decide +kernel) rfl rfl ?_
  refine zv_cv (i := 45) (c := 1) (mm2 := zxm209) (rm2 := (2, 120)) (va := [.inl (zw_a xs i 1), .inl (zw_a xs i 2), .inl (if zw_a xs i 3 = 0 then 0 else 1)]) (S := []) hB (zE_up (by rfl) (by rfl) (by rfl) (by rfl) (by rfl) (zo_M_land e2)) (by decide +kernel) rfl rfl (by decide) (by decide) rfl ?_
  refine zv_pop hB (by decide +kernel) rfl ?_
  refine zv_goto hB (off := 1135) (t := 1593) (by decide +kernel) rfl ?_
  exact zw_tail hB i0 i6 hL (k _ _ ⟨hI.law, yk_sky_fr hI.sky fun j hj => fr j (by omega), z', hI.tape, hI.tale, hI.kept, hI.so, hI.le, hI.ln⟩)
theorem zc_ship {good : Nat → List zNV → List zNV → List zNV → List (Int → Int) → Prop} {Lx : Nat} {xs : Nat → Int32} {i : Int} {f : Nat → Int} {g : Nat → Int → Int} (hL : Lx ≤ 3072) (hB : zw_B good) (hR : zw_R Lx xs good) (i0 : 0 ≤ i) (i6 : i + 6 ≤ Lx) (hI : zI f g) (k : ∀ f2 g2, zI f2 g2 → good 18 (zw_lc (i + 6)) [] (zE_F f2) (zE_G g2)) : good 461 (zw_lc i) [] (zE_F f) (zE_G g) := by
  obtain ⟨L, R⟩ := hI.law
  have tl := zI_tl hI
  obtain ⟨v0, v1, v2, v3, e1, e2, z', fr⟩ := yo_ship (s := (zw_a xs i 1)) (x := (zw_a xs i 2)) (y := (zw_a xs i 3)) (ts := (f 5)) (gl := (g 6)) (gp := (g 5)) (m := (g 67)) hI.sea
  refine zv_ald (ins := .aload_n 1) (len := 1) hB (by decide +kernel) rfl rfl rfl ?_
  refine zw_arg (j := 1) hB hR i0 i6 hL (by decide +kernel) (by decide) (by decide) rfl ?_
  refine zw_arg (j := 2) hB hR i0 i6 hL (by decide +kernel) (by decide) (by decide) rfl ?_
  refine zw_arg (j := 3) hB hR i0 i6 hL (by decide +kernel) (by decide) (by decide) rfl ?_
  refine zv_cv (i := 46) (c := 0) (mm2 := zxm28) (rm2 := (2, 120)) (va := [.inl (zw_a xs i 1), .inl (zw_a xs i 2), .inl (zw_a xs i 3)]) (S := []) hB (zE_up (by rfl) (by rfl) (by rfl) (by rfl) (by rfl) (zo_X_ship e1)) (by decide +kernel) rfl rfl (by decide) (by decide) rfl ?_
  refine zv_pop hB (by decide +kernel) rfl ?_
  refine zv_ald (ins := .aload_n 2) (len := 1) hB (by decide +kernel) rfl rfl rfl ?_
  refine zw_arg (j := 1) hB hR i0 i6 hL (by decide +kernel) (by decide) (by decide) rfl ?_
  refine zw_arg (j := 2) hB hR i0 i6 hL (by decide +kernel) (by decide) (by decide) rfl ?_
  refine zw_arg (j := 3) hB hR i0 i6 hL (by decide +kernel) (by decide) (by decide) rfl ?_
  refine zv_cv (i := 49) (c := 1) (mm2 := zxm211) (rm2 := (1, 60)) (va := [.inl (zw_a xs i 1), .inl (zw_a xs i 2), .inl (zw_a xs i 3)]) (S := []) hB (zE_up (by rfl) (by rfl) (by rfl) (by rfl) (by rfl) (zo_M_ship e2)) (by decide +kernel) rfl rfl (by decide) (by decide) rfl ?_
  refine zv_pop hB (by decide +kernel) rfl ?_
  refine zv_goto hB (off := 1092) (t := 1593) (by decide +kernel) rfl ?_
  exact zw_tail hB i0 i6 hL (k _ _ ⟨hI.law, yk_sky_fr hI.sky fun j hj => fr j (by omega), z', hI.tape, hI.tale, hI.kept, hI.so, hI.le, hI.ln⟩)
theorem zc_feed {good : Nat → List zNV → List zNV → List zNV → List (Int → Int) → Prop} {Lx : Nat} {xs : Nat → Int32} {i : Int} {f : Nat → Int} {g : Nat → Int → Int} (hL : Lx ≤ 3072) (hB : zw_B good) (hR : zw_R Lx xs good) (i0 : 0 ≤ i) (i6 : i + 6 ≤ Lx) (hI : zI f g) (k : ∀ f2 g2, zI f2 g2 → good 18 (zw_lc (i + 6)) [] (zE_F f2) (zE_G g2)) : good 504 (zw_lc i) [] (zE_F f) (zE_G g) := by
  obtain ⟨L, R⟩ := hI.law
  have tl := zI_tl hI
  obtain ⟨v0, v1, v2, v3, v4, e1, e2, p'⟩ := yo_feed (a := (zw_a xs i 1)) (b := (zw_a xs i 2)) (c := (zw_a xs i 3)) (d := (zw_a xs i 4)) (e := (zw_a xs i 5)) (n := (f 6)) (T := (g 7)) (n2 := (f 74)) (M := (g 68)) hI.tape
  refine zv_ald (ins := .aload_n 1) (len := 1) hB (by decide +kernel) rfl rfl rfl ?_
  refine zw_arg (j := 1) hB hR i0 i6 hL (by decide +kernel) (by decide) (by decide) rfl ?_
  refine zw_arg (j := 2) hB hR i0 i6 hL (by decide +kernel) (by decide) (by decide) rfl ?_
  refine zw_arg (j := 3) hB hR i0 i6 hL (by decide +kernel) (by decide) (by decide) rfl ?_
  refine zw_arg (j := 4) hB hR i0 i6 hL (by decide +kernel) (by decide) (by decide) rfl ?_
  refine zw_arg (j := 5) hB hR i0 i6 hL (by decide +kernel) (by decide) (by decide) rfl ?_
  refine zv_cv (i := 50) (c := 0) (mm2 := zxm32) (rm2 := (1, 60)) (va := [.inl (zw_a xs i 1), .inl (zw_a xs i 2), .inl (zw_a xs i 3), .inl (zw_a xs i 4), .inl (zw_a xs i 5)]) (S := []) hB (zE_up (by rfl) (by rfl) (by rfl) (by rfl) (by rfl) (zo_X_feed e1)) (by decide +kernel) rfl rfl (by decide) (by decide) rfl ?_
  refine zv_pop hB (by decide +kernel) rfl ?_
  refine zv_ald (ins := .aload_n 2) (len := 1) hB (by decide +kernel) rfl rfl rfl ?_
  refine zw_arg (j := 1) hB hR i0 i6 hL (by decide +kernel) (by decide) (by decide) rfl ?_
  refine zw_arg (j := 2) hB hR i0 i6 hL (by decide +kernel) (by decide) (by decide) rfl ?_
  refine zw_arg (j := 3) hB hR i0 i6 hL (by decide +kernel) (by decide) (by decide) rfl ?_
  refine zw_arg (j := 4) hB hR i0 i6 hL (by decide +kernel) (by decide) (by decide) rfl ?_
  refine zw_arg (j := 5) hB hR i0 i6 hL (by decide +kernel) (by decide) (by decide) rfl ?_
  refine zv_cv (i := 54) (c := 1) (mm2 := zxm213) (rm2 := (1, 60)) (va := [.inl (zw_a xs i 1), .inl (zw_a xs i 2), .inl (zw_a xs i 3), .inl (zw_a xs i 4), .inl (zw_a xs i 5)]) (S := []) hB (zE_up (by rfl) (by rfl) (by rfl) (by rfl) (by rfl) (zo_M_feed e2)) (by decide +kernel) rfl rfl (by decide) (by decide) rfl ?_
  refine zv_pop hB (by decide +kernel) rfl ?_
  refine zv_goto hB (off := 1029) (t := 1593) (by decide +kernel) rfl ?_
  exact zw_tail hB i0 i6 hL (k _ _ ⟨hI.law, hI.sky, hI.sea, p', hI.tale, hI.kept, hI.so, hI.le, hI.ln⟩)
theorem zc_starIs {good : Nat → List zNV → List zNV → List zNV → List (Int → Int) → Prop} {Lx : Nat} {xs : Nat → Int32} {i : Int} {f : Nat → Int} {g : Nat → Int → Int} (hL : Lx ≤ 3072) (hB : zw_B good) (hR : zw_R Lx xs good) (i0 : 0 ≤ i) (i6 : i + 6 ≤ Lx) (hI : zI f g) (k : ∀ f2 g2, zI f2 g2 → good 18 (zw_lc (i + 6)) [] (zE_F f2) (zE_G g2)) : good 613 (zw_lc i) [] (zE_F f) (zE_G g) := by
  obtain ⟨L, R⟩ := hI.law
  have tl := zI_tl hI
  obtain ⟨v0, e1, e2⟩ := yo_starIs (i := (zw_a xs i 1)) (w := (zw_a xs i 2)) (t := (f 0)) (h := (f 1)) (co := (g 0)) (ro := (g 1)) (br := (g 2)) (wc := (g 3)) (wr := (g 4)) (m := (g 67)) hI.sky
  refine zv_ald (ins := .aload_n 1) (len := 1) hB (by decide +kernel) rfl rfl rfl ?_
  refine zw_arg (j := 1) hB hR i0 i6 hL (by decide +kernel) (by decide) (by decide) rfl ?_
  refine zw_arg (j := 2) hB hR i0 i6 hL (by decide +kernel) (by decide) (by decide) rfl ?_
  refine zv_cv (i := 64) (c := 0) (mm2 := zxm81) (rm2 := (1, 60)) (va := [.inl (zw_a xs i 1), .inl (zw_a xs i 2)]) (S := []) hB (zE_up (by rfl) (by rfl) (by rfl) (by rfl) (by rfl) (zo_X_starIs e1)) (by decide +kernel) rfl rfl (by decide) (by decide) rfl ?_
  refine zv_pop hB (by decide +kernel) rfl ?_
  refine zv_ald (ins := .aload_n 2) (len := 1) hB (by decide +kernel) rfl rfl rfl ?_
  refine zw_arg (j := 1) hB hR i0 i6 hL (by decide +kernel) (by decide) (by decide) rfl ?_
  refine zw_arg (j := 2) hB hR i0 i6 hL (by decide +kernel) (by decide) (by decide) rfl ?_
  refine zv_cv (i := 68) (c := 1) (mm2 := zxm237) (rm2 := (2, 120)) (va := [.inl (zw_a xs i 1), .inl (zw_a xs i 2)]) (S := []) hB (zE_up (by rfl) (by rfl) (by rfl) (by rfl) (by rfl) (zo_M_starIs e2)) (by decide +kernel) rfl rfl (by decide) (by decide) rfl ?_
  refine zv_pop hB (by decide +kernel) rfl ?_
  refine zv_goto hB (off := 950) (t := 1593) (by decide +kernel) rfl ?_
  exact zw_tail hB i0 i6 hL (k _ _ ⟨hI.law, hI.sky, hI.sea, hI.tape, hI.tale, hI.kept, hI.so, hI.le, hI.ln⟩)
end
section
/-! The calls of the law, case by case. -/
theorem zc_seen {good : Nat → List zNV → List zNV → List zNV → List (Int → Int) → Prop} {Lx : Nat} {xs : Nat → Int32} {i : Int} {f : Nat → Int} {g : Nat → Int → Int} (hL : Lx ≤ 3072) (hB : zw_B good) (hR : zw_R Lx xs good) (i0 : 0 ≤ i) (i6 : i + 6 ≤ Lx) (hI : zI f g) (k : ∀ f2 g2, zI f2 g2 → good 18 (zw_lc (i + 6)) [] (zE_F f2) (zE_G g2)) : good 646 (zw_lc i) [] (zE_F f) (zE_G g) := by
  obtain ⟨L, R⟩ := hI.law
  have tl := zI_tl hI
  obtain ⟨v0, v1, v2, v3, v4, v5, v6, v7, v8, v9, v10, v11, e1, e2⟩ := yo_seen (x := (zw_a xs i 1)) (y := (zw_a xs i 2)) (f3 := (f 25)) (f4 := (f 26)) (f5 := (f 27)) (h := (f 1)) (u := (f 28)) (f8 := (f 29)) (t := (f 0)) (sc := (f 3)) (sr := (f 4)) (cl := (f 2)) (tS := (f 30)) (f14 := (f 31)) (nc := (f 32)) (f16 := (f 33)) (sP := (f 34)) (g0 := (g 15)) (g1 := (g 16)) (co := (g 0)) (ro := (g 1)) (br := (g 2)) (kd := (g 17)) (hf := (g 18)) (to := (g 19)) (K := (g 20)) (g9 := (g 21)) (V := (g 22)) (mc := (f 83)) (m := (g 67)) (mk := (g 76)) (g2 := (g 80)) (mh := (g 78)) (mt := (g 79)) (C := (g 75)) (g6 := (g 81)) R hI.sky
  refine zv_ald (ins := .aload_n 1) (len := 1) hB (by decide +kernel) rfl rfl rfl ?_
  refine zw_arg (j := 1) hB hR i0 i6 hL (by decide +kernel) (by decide) (by decide) rfl ?_
  refine zw_arg (j := 2) hB hR i0 i6 hL (by decide +kernel) (by decide) (by decide) rfl ?_
  refine zv_cv (i := 69) (c := 0) (mm2 := zxm83) (rm2 := (5, 300)) (va := [.inl (zw_a xs i 1), .inl (zw_a xs i 2)]) (S := []) hB (zE_up (by rfl) (by rfl) (by rfl) (by rfl) (by rfl) (zo_X_seen e1)) (by decide +kernel) rfl rfl (by decide) (by decide) rfl ?_
  refine zv_pop hB (by decide +kernel) rfl ?_
  refine zv_ald (ins := .aload_n 2) (len := 1) hB (by decide +kernel) rfl rfl rfl ?_
  refine zw_arg (j := 1) hB hR i0 i6 hL (by decide +kernel) (by decide) (by decide) rfl ?_
  refine zw_arg (j := 2) hB hR i0 i6 hL (by decide +kernel) (by decide) (by decide) rfl ?_
  refine zv_cv (i := 72) (c := 1) (mm2 := zxm239) (rm2 := (5, 300)) (va := [.inl (zw_a xs i 1), .inl (zw_a xs i 2)]) (S := []) hB (zE_up (by rfl) (by rfl) (by rfl) (by rfl) (by rfl) (zo_M_seen e2)) (by decide +kernel) rfl rfl (by decide) (by decide) rfl ?_
  refine zv_pop hB (by decide +kernel) rfl ?_
  refine zv_goto hB (off := 917) (t := 1593) (by decide +kernel) rfl ?_
  exact zw_tail hB i0 i6 hL (k _ _ ⟨hI.law, hI.sky, hI.sea, hI.tape, hI.tale, hI.kept, hI.so, hI.le, hI.ln⟩)
theorem zc_line {good : Nat → List zNV → List zNV → List zNV → List (Int → Int) → Prop} {Lx : Nat} {xs : Nat → Int32} {i : Int} {f : Nat → Int} {g : Nat → Int → Int} (hL : Lx ≤ 3072) (hB : zw_B good) (hR : zw_R Lx xs good) (i0 : 0 ≤ i) (i6 : i + 6 ≤ Lx) (hI : zI f g) (k : ∀ f2 g2, zI f2 g2 → good 18 (zw_lc (i + 6)) [] (zE_F f2) (zE_G g2)) : good 679 (zw_lc i) [] (zE_F f) (zE_G g) := by
  obtain ⟨L, R⟩ := hI.law
  have tl := zI_tl hI
  obtain ⟨v0, v1, v2, v3, v4, v5, v6, v7, v8, v9, v10, v11, v12, v13, v14, v15, e1, e2⟩ := yo_line (x := (zw_a xs i 1)) (y := (zw_a xs i 2)) (a := (zw_a xs i 3)) (b := (zw_a xs i 4)) (t := (f 0)) (f4 := (f 25)) (f5 := (f 26)) (f6 := (f 27)) (h := (f 1)) (u := (f 28)) (f9 := (f 29)) (sc := (f 3)) (sr := (f 4)) (cl := (f 2)) (tS := (f 30)) (f14 := (f 31)) (nc := (f 32)) (f16 := (f 33)) (sP := (f 34)) (tL := (f 35)) (lP := (f 36)) (g0 := (g 15)) (g1 := (g 16)) (co := (g 0)) (ro := (g 1)) (br := (g 2)) (kd := (g 17)) (hf := (g 18)) (to := (g 19)) (K := (g 20)) (g9 := (g 21)) (V := (g 22)) (g11 := (g 23)) (g12 := (g 24)) (mc := (f 83)) (f1 := (f 84)) (m := (g 67)) (mk := (g 76)) (g2 := (g 80)) (mh := (g 78)) (mt := (g 79)) (C := (g 75)) (g6 := (g 81)) (g7 := (g 82)) R hI.sky
  refine zv_ald (ins := .aload_n 1) (len := 1) hB (by decide +kernel) rfl rfl rfl ?_
  refine zw_arg (j := 1) hB hR i0 i6 hL (by decide +kernel) (by decide) (by decide) rfl ?_
  refine zw_arg (j := 2) hB hR i0 i6 hL (by decide +kernel) (by decide) (by decide) rfl ?_
  refine zw_arg (j := 3) hB hR i0 i6 hL (by decide +kernel) (by decide) (by decide) rfl ?_
  refine zw_arg (j := 4) hB hR i0 i6 hL (by decide +kernel) (by decide) (by decide) rfl ?_
  refine zv_cv (i := 73) (c := 0) (mm2 := zxm95) (rm2 := (6, 360)) (va := [.inl (zw_a xs i 1), .inl (zw_a xs i 2), .inl (zw_a xs i 3), .inl (zw_a xs i 4)]) (S := []) hB (zE_up (by rfl) (by rfl) (by rfl) (by rfl) (by rfl) (zo_X_line e1)) (by decide +kernel) rfl rfl (by decide) (by decide) rfl ?_
  refine zv_pop hB (by decide +kernel) rfl ?_
  refine zv_ald (ins := .aload_n 2) (len := 1) hB (by decide +kernel) rfl rfl rfl ?_
  refine zw_arg (j := 1) hB hR i0 i6 hL (by decide +kernel) (by decide) (by decide) rfl ?_
  refine zw_arg (j := 2) hB hR i0 i6 hL (by decide +kernel) (by decide) (by decide) rfl ?_
  refine zw_arg (j := 3) hB hR i0 i6 hL (by decide +kernel) (by decide) (by decide) rfl ?_
  refine zw_arg (j := 4) hB hR i0 i6 hL (by decide +kernel) (by decide) (by decide) rfl ?_
  refine zv_cv (i := 77) (c := 1) (mm2 := zxm251) (rm2 := (6, 360)) (va := [.inl (zw_a xs i 1), .inl (zw_a xs i 2), .inl (zw_a xs i 3), .inl (zw_a xs i 4)]) (S := []) hB (zE_up (by rfl) (by rfl) (by rfl) (by rfl) (by rfl) (zo_M_line e2)) (by decide +kernel) rfl rfl (by decide) (by decide) rfl ?_
  refine zv_pop hB (by decide +kernel) rfl ?_
  refine zv_goto hB (off := 864) (t := 1593) (by decide +kernel) rfl ?_
  exact zw_tail hB i0 i6 hL (k _ _ ⟨hI.law, hI.sky, hI.sea, hI.tape, hI.tale, hI.kept, hI.so, hI.le, hI.ln⟩)
theorem zc_sky {good : Nat → List zNV → List zNV → List zNV → List (Int → Int) → Prop} {Lx : Nat} {xs : Nat → Int32} {i : Int} {f : Nat → Int} {g : Nat → Int → Int} (hL : Lx ≤ 3072) (hB : zw_B good) (hR : zw_R Lx xs good) (i0 : 0 ≤ i) (i6 : i + 6 ≤ Lx) (hI : zI f g) (k : ∀ f2 g2, zI f2 g2 → good 18 (zw_lc (i + 6)) [] (zE_F f2) (zE_G g2)) : good 732 (zw_lc i) [] (zE_F f) (zE_G g) := by
  obtain ⟨L, R⟩ := hI.law
  have tl := zI_tl hI
  obtain ⟨v0, v1, v2, v3, v4, v5, v6, v7, v8, v9, v10, v11, v12, v13, v14, v15, v16, v17, e1, e2⟩ := yo_sky (x := (zw_a xs i 1)) (y := (zw_a xs i 2)) (a := (zw_a xs i 3)) (f3 := (f 25)) (f4 := (f 26)) (f5 := (f 27)) (h := (f 1)) (u := (f 28)) (f8 := (f 29)) (t := (f 0)) (sc := (f 3)) (sr := (f 4)) (cl := (f 2)) (tS := (f 30)) (f14 := (f 31)) (nc := (f 32)) (f16 := (f 33)) (sP := (f 34)) (tL := (f 35)) (lP := (f 36)) (g0 := (g 15)) (g1 := (g 16)) (co := (g 0)) (ro := (g 1)) (br := (g 2)) (kd := (g 17)) (hf := (g 18)) (to := (g 19)) (K := (g 20)) (g9 := (g 21)) (V := (g 22)) (g11 := (g 23)) (g12 := (g 24)) (mc := (f 83)) (f1 := (f 84)) (f2 := (f 85)) (f33 := (f 86)) (m := (g 67)) (mk := (g 76)) (g2 := (g 80)) (mh := (g 78)) (mt := (g 79)) (C := (g 75)) (g6 := (g 81)) (g7 := (g 82)) R hI.sky
  refine zv_ald (ins := .aload_n 1) (len := 1) hB (by decide +kernel) rfl rfl rfl ?_
  refine zw_arg (j := 1) hB hR i0 i6 hL (by decide +kernel) (by decide) (by decide) rfl ?_
  refine zw_arg (j := 2) hB hR i0 i6 hL (by decide +kernel) (by decide) (by decide) rfl ?_
  refine zw_arg (j := 3) hB hR i0 i6 hL (by decide +kernel) (by decide) (by decide) rfl ?_
  refine zv_cv (i := 78) (c := 0) (mm2 := zxm100) (rm2 := (6, 360)) (va := [.inl (zw_a xs i 1), .inl (zw_a xs i 2), .inl (zw_a xs i 3)]) (S := []) hB (zE_up (by rfl) (by rfl) (by rfl) (by rfl) (by rfl) (zo_X_sky e1)) (by decide +kernel) rfl rfl (by decide) (by decide) rfl ?_
  refine zv_pop hB (by decide +kernel) rfl ?_
  refine zv_ald (ins := .aload_n 2) (len := 1) hB (by decide +kernel) rfl rfl rfl ?_
  refine zw_arg (j := 1) hB hR i0 i6 hL (by decide +kernel) (by decide) (by decide) rfl ?_
  refine zw_arg (j := 2) hB hR i0 i6 hL (by decide +kernel) (by decide) (by decide) rfl ?_
  refine zw_arg (j := 3) hB hR i0 i6 hL (by decide +kernel) (by decide) (by decide) rfl ?_
  refine zv_cv (i := 82) (c := 1) (mm2 := zxm254) (rm2 := (6, 360)) (va := [.inl (zw_a xs i 1), .inl (zw_a xs i 2), .inl (zw_a xs i 3)]) (S := []) hB (zE_up (by rfl) (by rfl) (by rfl) (by rfl) (by rfl) (zo_M_sky e2)) (by decide +kernel) rfl rfl (by decide) (by decide) rfl ?_
  refine zv_pop hB (by decide +kernel) rfl ?_
  refine zv_goto hB (off := 821) (t := 1593) (by decide +kernel) rfl ?_
  exact zw_tail hB i0 i6 hL (k _ _ ⟨hI.law, hI.sky, hI.sea, hI.tape, hI.tale, hI.kept, hI.so, hI.le, hI.ln⟩)
theorem zc_figure {good : Nat → List zNV → List zNV → List zNV → List (Int → Int) → Prop} {Lx : Nat} {xs : Nat → Int32} {i : Int} {f : Nat → Int} {g : Nat → Int → Int} (hL : Lx ≤ 3072) (hB : zw_B good) (hR : zw_R Lx xs good) (i0 : 0 ≤ i) (i6 : i + 6 ≤ Lx) (hI : zI f g) (k : ∀ f2 g2, zI f2 g2 → good 18 (zw_lc (i + 6)) [] (zE_F f2) (zE_G g2)) : good 775 (zw_lc i) [] (zE_F f) (zE_G g) := by
  obtain ⟨L, R⟩ := hI.law
  have tl := zI_tl hI
  obtain ⟨v0, v1, v2, v3, v4, v5, v6, v7, v8, v9, v10, v11, v12, v13, v14, v15, e1, e2⟩ := yo_figure (x := (zw_a xs i 1)) (y := (zw_a xs i 2)) (a := (zw_a xs i 3)) (t := (f 0)) (f4 := (f 25)) (f5 := (f 26)) (f6 := (f 27)) (h := (f 1)) (u := (f 28)) (f9 := (f 29)) (sc := (f 3)) (sr := (f 4)) (cl := (f 2)) (tS := (f 30)) (f14 := (f 31)) (nc := (f 32)) (f16 := (f 33)) (sP := (f 34)) (tL := (f 35)) (lP := (f 36)) (g0 := (g 15)) (g1 := (g 16)) (co := (g 0)) (ro := (g 1)) (br := (g 2)) (kd := (g 17)) (hf := (g 18)) (to := (g 19)) (K := (g 20)) (g9 := (g 21)) (V := (g 22)) (g11 := (g 23)) (g12 := (g 24)) (mc := (f 83)) (f1 := (f 84)) (m := (g 67)) (mk := (g 76)) (g2 := (g 80)) (mh := (g 78)) (mt := (g 79)) (C := (g 75)) (g6 := (g 81)) (g7 := (g 82)) R hI.sky
  refine zv_ald (ins := .aload_n 1) (len := 1) hB (by decide +kernel) rfl rfl rfl ?_
  refine zw_arg (j := 1) hB hR i0 i6 hL (by decide +kernel) (by decide) (by decide) rfl ?_
  refine zw_arg (j := 2) hB hR i0 i6 hL (by decide +kernel) (by decide) (by decide) rfl ?_
  refine zw_arg (j := 3) hB hR i0 i6 hL (by decide +kernel) (by decide) (by decide) rfl ?_
  refine zv_cv (i := 83) (c := 0) (mm2 := zxm110) (rm2 := (6, 360)) (va := [.inl (zw_a xs i 1), .inl (zw_a xs i 2), .inl (zw_a xs i 3)]) (S := []) hB (zE_up (by rfl) (by rfl) (by rfl) (by rfl) (by rfl) (zo_X_figure e1)) (by decide +kernel) rfl rfl (by decide) (by decide) rfl ?_
  refine zv_pop hB (by decide +kernel) rfl ?_
  refine zv_ald (ins := .aload_n 2) (len := 1) hB (by decide +kernel) rfl rfl rfl ?_
  refine zw_arg (j := 1) hB hR i0 i6 hL (by decide +kernel) (by decide) (by decide) rfl ?_
  refine zw_arg (j := 2) hB hR i0 i6 hL (by decide +kernel) (by decide) (by decide) rfl ?_
  refine zw_arg (j := 3) hB hR i0 i6 hL (by decide +kernel) (by decide) (by decide) rfl ?_
  refine zv_cv (i := 86) (c := 1) (mm2 := zxm262) (rm2 := (6, 360)) (va := [.inl (zw_a xs i 1), .inl (zw_a xs i 2), .inl (zw_a xs i 3)]) (S := []) hB (zE_up (by rfl) (by rfl) (by rfl) (by rfl) (by rfl) (zo_M_figure e2)) (by decide +kernel) rfl rfl (by decide) (by decide) rfl ?_
  refine zv_pop hB (by decide +kernel) rfl ?_
  refine zv_goto hB (off := 778) (t := 1593) (by decide +kernel) rfl ?_
  exact zw_tail hB i0 i6 hL (k _ _ ⟨hI.law, hI.sky, hI.sea, hI.tape, hI.tale, hI.kept, hI.so, hI.le, hI.ln⟩)
theorem zc_matched {good : Nat → List zNV → List zNV → List zNV → List (Int → Int) → Prop} {Lx : Nat} {xs : Nat → Int32} {i : Int} {f : Nat → Int} {g : Nat → Int → Int} (hL : Lx ≤ 3072) (hB : zw_B good) (hR : zw_R Lx xs good) (i0 : 0 ≤ i) (i6 : i + 6 ≤ Lx) (hI : zI f g) (k : ∀ f2 g2, zI f2 g2 → good 18 (zw_lc (i + 6)) [] (zE_F f2) (zE_G g2)) : good 818 (zw_lc i) [] (zE_F f) (zE_G g) := by
  obtain ⟨L, R⟩ := hI.law
  have tl := zI_tl hI
  obtain ⟨o1, o2, e1, e2, hr, h1⟩ := yo_matched (x := (zw_a xs i 1)) (y := (zw_a xs i 2)) (w := (zw_a xs i 3)) (n := (f 37)) (f5 := (f 25)) (f6 := (f 26)) (f7 := (f 27)) (h := (f 1)) (u := (f 28)) (f10 := (f 29)) (t := (f 0)) (sc := (f 3)) (sr := (f 4)) (cl := (f 2)) (tS := (f 30)) (f16 := (f 31)) (nc := (f 32)) (f18 := (f 33)) (sP := (f 34)) (tL := (f 35)) (lP := (f 36)) (ni := (f 38)) (f25 := (f 41)) (g0 := (g 15)) (g1 := (g 16)) (co := (g 0)) (ro := (g 1)) (br := (g 2)) (kd := (g 17)) (hf := (g 18)) (to := (g 19)) (K := (g 20)) (g9 := (g 21)) (V := (g 22)) (g11 := (g 23)) (g12 := (g 24)) (g13 := (g 25)) (nr := (g 26)) (g15 := (g 27)) (g16 := (g 28)) (mc := (f 83)) (f2 := (f 84)) (f4 := (f 90)) (m := (g 67)) (mk := (g 76)) (e2 := (g 80)) (mh := (g 78)) (mt := (g 79)) (C := (g 75)) (e6 := (g 81)) (e7 := (g 82)) (e8 := (g 87)) (e9 := (g 88)) (tf := (g 85)) (tt := (g 86)) (e12 := (g 89)) R hI.sky hI.tale.2.2 hI.so
  rw [← hI.tale.1, ← hI.tale.2.1] at e2
  refine zv_ald (ins := .aload_n 1) (len := 1) hB (by decide +kernel) rfl rfl rfl ?_
  refine zw_arg (j := 1) hB hR i0 i6 hL (by decide +kernel) (by decide) (by decide) rfl ?_
  refine zw_arg (j := 2) hB hR i0 i6 hL (by decide +kernel) (by decide) (by decide) rfl ?_
  refine zw_arg (j := 3) hB hR i0 i6 hL (by decide +kernel) (by decide) (by decide) rfl ?_
  refine zv_cv (i := 87) (c := 0) (mm2 := zxm111) (rm2 := (14, 840)) (va := [.inl (zw_a xs i 1), .inl (zw_a xs i 2), .inl (zw_a xs i 3)]) (S := []) hB (zE_up (by rfl) (by rfl) (by rfl) (by rfl) (by rfl) (zo_X_matched e1)) (by decide +kernel) rfl rfl (by decide) (by decide) rfl ?_
  refine zv_pop hB (by decide +kernel) rfl ?_
  refine zv_ald (ins := .aload_n 2) (len := 1) hB (by decide +kernel) rfl rfl rfl ?_
  refine zw_arg (j := 1) hB hR i0 i6 hL (by decide +kernel) (by decide) (by decide) rfl ?_
  refine zw_arg (j := 2) hB hR i0 i6 hL (by decide +kernel) (by decide) (by decide) rfl ?_
  refine zw_arg (j := 3) hB hR i0 i6 hL (by decide +kernel) (by decide) (by decide) rfl ?_
  refine zv_cv (i := 90) (c := 1) (mm2 := zxm267) (rm2 := (6, 360)) (va := [.inl (zw_a xs i 1), .inl (zw_a xs i 2), .inl (zw_a xs i 3)]) (S := []) hB (zE_up (by rfl) (by rfl) (by rfl) (by rfl) (by rfl) (zo_M_matched e2)) (by decide +kernel) rfl rfl (by decide) (by decide) rfl ?_
  refine zv_pop hB (by decide +kernel) rfl ?_
  refine zv_goto hB (off := 735) (t := 1593) (by decide +kernel) rfl ?_
  exact zw_tail hB i0 i6 hL (k _ _ ⟨hI.law, hI.sky, hI.sea, hI.tape, hI.tale, hI.kept, h1, hI.le, hI.ln⟩)
theorem zc_where {good : Nat → List zNV → List zNV → List zNV → List (Int → Int) → Prop} {Lx : Nat} {xs : Nat → Int32} {i : Int} {f : Nat → Int} {g : Nat → Int → Int} (hL : Lx ≤ 3072) (hB : zw_B good) (hR : zw_R Lx xs good) (i0 : 0 ≤ i) (i6 : i + 6 ≤ Lx) (hI : zI f g) (k : ∀ f2 g2, zI f2 g2 → good 18 (zw_lc (i + 6)) [] (zE_F f2) (zE_G g2)) : good 861 (zw_lc i) [] (zE_F f) (zE_G g) := by
  obtain ⟨L, R⟩ := hI.law
  have tl := zI_tl hI
  obtain ⟨o1, o2, e1, e2, hr, h1⟩ := yo_where (w := (zw_a xs i 1)) (n := (f 37)) (f5 := (f 25)) (f6 := (f 26)) (f7 := (f 27)) (h := (f 1)) (u := (f 28)) (f10 := (f 29)) (t := (f 0)) (sc := (f 3)) (sr := (f 4)) (cl := (f 2)) (tS := (f 30)) (f16 := (f 31)) (nc := (f 32)) (f18 := (f 33)) (sP := (f 34)) (ni := (f 38)) (tL := (f 35)) (lP := (f 36)) (f25 := (f 41)) (g0 := (g 15)) (g1 := (g 16)) (co := (g 0)) (ro := (g 1)) (br := (g 2)) (kd := (g 17)) (hf := (g 18)) (to := (g 19)) (K := (g 20)) (g9 := (g 21)) (V := (g 22)) (g11 := (g 23)) (g12 := (g 24)) (g13 := (g 25)) (nr := (g 26)) (g15 := (g 27)) (g16 := (g 28)) (mc := (f 83)) (f2 := (f 84)) (f3 := (f 90)) (m := (g 67)) (mk := (g 76)) (e2 := (g 80)) (mh := (g 78)) (mt := (g 79)) (C := (g 75)) (e6 := (g 81)) (e7 := (g 82)) (e8 := (g 87)) (e9 := (g 88)) (tf := (g 85)) (tt := (g 86)) (e12 := (g 89)) R hI.sky hI.tale.2.2 hI.so
  rw [← hI.tale.1, ← hI.tale.2.1] at e2
  refine zv_ald (ins := .aload_n 1) (len := 1) hB (by decide +kernel) rfl rfl rfl ?_
  refine zw_arg (j := 1) hB hR i0 i6 hL (by decide +kernel) (by decide) (by decide) rfl ?_
  refine zv_cv (i := 91) (c := 0) (mm2 := zxm122) (rm2 := (14, 840)) (va := [.inl (zw_a xs i 1)]) (S := []) hB (zE_up (by rfl) (by rfl) (by rfl) (by rfl) (by rfl) (zo_X_where e1)) (by decide +kernel) rfl rfl (by decide) (by decide) rfl ?_
  refine zv_pop hB (by decide +kernel) rfl ?_
  refine zv_ald (ins := .aload_n 2) (len := 1) hB (by decide +kernel) rfl rfl rfl ?_
  refine zw_arg (j := 1) hB hR i0 i6 hL (by decide +kernel) (by decide) (by decide) rfl ?_
  refine zv_cv (i := 94) (c := 1) (mm2 := zxm271) (rm2 := (7, 420)) (va := [.inl (zw_a xs i 1)]) (S := []) hB (zE_up (by rfl) (by rfl) (by rfl) (by rfl) (by rfl) (zo_M_where e2)) (by decide +kernel) rfl rfl (by decide) (by decide) rfl ?_
  refine zv_pop hB (by decide +kernel) rfl ?_
  refine zv_goto hB (off := 712) (t := 1593) (by decide +kernel) rfl ?_
  exact zw_tail hB i0 i6 hL (k _ _ ⟨hI.law, hI.sky, hI.sea, hI.tape, hI.tale, hI.kept, h1, hI.le, hI.ln⟩)
theorem zc_when {good : Nat → List zNV → List zNV → List zNV → List (Int → Int) → Prop} {Lx : Nat} {xs : Nat → Int32} {i : Int} {f : Nat → Int} {g : Nat → Int → Int} (hL : Lx ≤ 3072) (hB : zw_B good) (hR : zw_R Lx xs good) (i0 : 0 ≤ i) (i6 : i + 6 ≤ Lx) (hI : zI f g) (k : ∀ f2 g2, zI f2 g2 → good 18 (zw_lc (i + 6)) [] (zE_F f2) (zE_G g2)) : good 884 (zw_lc i) [] (zE_F f) (zE_G g) := by
  obtain ⟨L, R⟩ := hI.law
  have tl := zI_tl hI
  obtain ⟨o1, o2, e1, e2, hr, h1, h2⟩ := yo_when (x := (zw_a xs i 1)) (y := (zw_a xs i 2)) (n := (f 37)) (t := (f 0)) (f3 := (f 42)) (h := (f 1)) (f5 := (f 43)) (u := (f 28)) (f7 := (f 44)) (cl := (f 2)) (f9 := (f 45)) (sc := (f 3)) (f11 := (f 46)) (sr := (f 4)) (f13 := (f 47)) (ch := (f 48)) (f15 := (f 49)) (f19 := (f 25)) (f20 := (f 26)) (f21 := (f 27)) (f22 := (f 29)) (tS := (f 30)) (f24 := (f 31)) (nc := (f 32)) (f26 := (f 33)) (sP := (f 34)) (ni := (f 38)) (tL := (f 35)) (lP := (f 36)) (f33 := (f 41)) (co := (g 0)) (g1 := (g 29)) (ro := (g 1)) (g3 := (g 30)) (br := (g 2)) (g5 := (g 31)) (wc := (g 3)) (g7 := (g 32)) (wr := (g 4)) (g9 := (g 33)) (g10 := (g 15)) (g11 := (g 16)) (kd := (g 17)) (hf := (g 18)) (to := (g 19)) (K := (g 20)) (g16 := (g 21)) (V := (g 22)) (g18 := (g 23)) (g19 := (g 24)) (g20 := (g 25)) (nr := (g 26)) (g22 := (g 27)) (g23 := (g 28)) (mc := (f 83)) (f1 := (f 84)) (f2 := (f 90)) (m := (g 67)) (mk := (g 76)) (e2 := (g 80)) (mh := (g 78)) (mt := (g 79)) (C := (g 75)) (e6 := (g 81)) (e7 := (g 82)) (e8 := (g 87)) (e9 := (g 88)) (tf := (g 85)) (tt := (g 86)) (e12 := (g 89)) R hI.sky hI.tale.2.2 hI.so
  rw [← hI.tale.1, ← hI.tale.2.1] at e2
  refine zv_ald (ins := .aload_n 1) (len := 1) hB (by decide +kernel) rfl rfl rfl ?_
  refine zw_arg (j := 1) hB hR i0 i6 hL (by decide +kernel) (by decide) (by decide) rfl ?_
  refine zw_arg (j := 2) hB hR i0 i6 hL (by decide +kernel) (by decide) (by decide) rfl ?_
  refine zv_cv (i := 95) (c := 0) (mm2 := zxm124) (rm2 := (14, 840)) (va := [.inl (zw_a xs i 1), .inl (zw_a xs i 2)]) (S := []) hB (zE_up (by rfl) (by rfl) (by rfl) (by rfl) (by rfl) (zo_X_when e1)) (by decide +kernel) rfl rfl (by decide) (by decide) rfl ?_
  refine zv_pop hB (by decide +kernel) rfl ?_
  refine zv_ald (ins := .aload_n 2) (len := 1) hB (by decide +kernel) rfl rfl rfl ?_
  refine zw_arg (j := 1) hB hR i0 i6 hL (by decide +kernel) (by decide) (by decide) rfl ?_
  refine zw_arg (j := 2) hB hR i0 i6 hL (by decide +kernel) (by decide) (by decide) rfl ?_
  refine zv_cv (i := 98) (c := 1) (mm2 := zxm273) (rm2 := (7, 420)) (va := [.inl (zw_a xs i 1), .inl (zw_a xs i 2)]) (S := []) hB (zE_up (by rfl) (by rfl) (by rfl) (by rfl) (by rfl) (zo_M_when e2)) (by decide +kernel) rfl rfl (by decide) (by decide) rfl ?_
  refine zv_pop hB (by decide +kernel) rfl ?_
  refine zv_goto hB (off := 679) (t := 1593) (by decide +kernel) rfl ?_
  exact zw_tail hB i0 i6 hL (k _ _ ⟨hI.law, zI_sky hI fun j _ _ => h2 j, zI_sea hI fun j _ _ => h2 j, hI.tape, hI.tale, hI.kept, h1, hI.le, hI.ln⟩)
theorem zc_alike {good : Nat → List zNV → List zNV → List zNV → List (Int → Int) → Prop} {Lx : Nat} {xs : Nat → Int32} {i : Int} {f : Nat → Int} {g : Nat → Int → Int} (hL : Lx ≤ 3072) (hB : zw_B good) (hR : zw_R Lx xs good) (i0 : 0 ≤ i) (i6 : i + 6 ≤ Lx) (hI : zI f g) (k : ∀ f2 g2, zI f2 g2 → good 18 (zw_lc (i + 6)) [] (zE_F f2) (zE_G g2)) : good 917 (zw_lc i) [] (zE_F f) (zE_G g) := by
  obtain ⟨L, R⟩ := hI.law
  have tl := zI_tl hI
  obtain ⟨o1, e1, h1⟩ := yw_alikeX (w := (zw_a xs i 1)) (f3 := (f 25)) (f4 := (f 26)) (f5 := (f 27)) (h := (f 1)) (u := (f 28)) (f8 := (f 29)) (t := (f 0)) (sc := (f 3)) (sr := (f 4)) (cl := (f 2)) (tS := (f 30)) (f14 := (f 31)) (nc := (f 32)) (f16 := (f 33)) (sP := (f 34)) (g0 := (g 15)) (g1 := (g 16)) (co := (g 0)) (ro := (g 1)) (br := (g 2)) (kd := (g 17)) (hf := (g 18)) (to := (g 19)) (K := (g 20)) (g9 := (g 21)) (V := (g 22)) (g11 := (g 34)) (g12 := (g 35)) (g13 := (g 36)) (g14 := (g 37)) R hI.sky
  obtain ⟨o2, e2, h2⟩ := yw_alikeM (w := (zw_a xs i 1)) (mc := (f 83)) (m := (g 67)) (mk := (g 76)) (g2 := (g 80)) (mh := (g 78)) (mt := (g 79)) (C := (g 75)) (g6 := (g 81)) (g7 := (g 90)) (g8 := (g 91)) (g9 := (g 92)) R hI.sky
  refine zv_ald (ins := .aload_n 1) (len := 1) hB (by decide +kernel) rfl rfl rfl ?_
  refine zw_arg (j := 1) hB hR i0 i6 hL (by decide +kernel) (by decide) (by decide) rfl ?_
  refine zv_cv (i := 99) (c := 0) (mm2 := zxm126) (rm2 := (6, 360)) (va := [.inl (zw_a xs i 1)]) (S := []) hB (zE_up (by rfl) (by rfl) (by rfl) (by rfl) (by rfl) (zo_X_alike e1)) (by decide +kernel) rfl rfl (by decide) (by decide) rfl ?_
  refine zv_pop hB (by decide +kernel) rfl ?_
  refine zv_ald (ins := .aload_n 2) (len := 1) hB (by decide +kernel) rfl rfl rfl ?_
  refine zw_arg (j := 1) hB hR i0 i6 hL (by decide +kernel) (by decide) (by decide) rfl ?_
  refine zv_cv (i := 102) (c := 1) (mm2 := zxm274) (rm2 := (7, 420)) (va := [.inl (zw_a xs i 1)]) (S := []) hB (zE_up (by rfl) (by rfl) (by rfl) (by rfl) (by rfl) (zo_M_alike e2)) (by decide +kernel) rfl rfl (by decide) (by decide) rfl ?_
  refine zv_pop hB (by decide +kernel) rfl ?_
  refine zv_goto hB (off := 656) (t := 1593) (by decide +kernel) rfl ?_
  exact zw_tail hB i0 i6 hL (k _ _ ⟨hI.law, hI.sky, hI.sea, hI.tape, hI.tale, hI.kept, hI.so, hI.le, hI.ln⟩)
theorem zc_known {good : Nat → List zNV → List zNV → List zNV → List (Int → Int) → Prop} {Lx : Nat} {xs : Nat → Int32} {i : Int} {f : Nat → Int} {g : Nat → Int → Int} (hL : Lx ≤ 3072) (hB : zw_B good) (hR : zw_R Lx xs good) (i0 : 0 ≤ i) (i6 : i + 6 ≤ Lx) (hI : zI f g) (k : ∀ f2 g2, zI f2 g2 → good 18 (zw_lc (i + 6)) [] (zE_F f2) (zE_G g2)) : good 940 (zw_lc i) [] (zE_F f) (zE_G g) := by
  obtain ⟨L, R⟩ := hI.law
  have tl := zI_tl hI
  obtain ⟨o1, e1, h1⟩ := yw_knownX (a := (zw_a xs i 1)) (w := (zw_a xs i 2)) (n := (f 6)) (f4 := (f 25)) (f5 := (f 50)) (f6 := (f 26)) (f7 := (f 27)) (h := (f 1)) (u := (f 28)) (f10 := (f 29)) (t := (f 0)) (sc := (f 3)) (sr := (f 4)) (cl := (f 2)) (tS := (f 30)) (f16 := (f 31)) (nc := (f 32)) (f18 := (f 33)) (sP := (f 34)) (g0 := (g 15)) (g1 := (g 38)) (T := (g 7)) (g3 := (g 16)) (co := (g 0)) (ro := (g 1)) (br := (g 2)) (kd := (g 17)) (hf := (g 18)) (to := (g 19)) (K := (g 20)) (g11 := (g 21)) (V := (g 22)) (g13 := (g 36)) R hI.sky hI.tape.2.1 hI.tape.2.2.1
  obtain ⟨o2, e2, h2⟩ := yw_knownM (a := (zw_a xs i 1)) (w := (zw_a xs i 2)) (n := (f 74)) (mc := (f 83)) (M := (g 68)) (g1 := (g 93)) (m := (g 67)) (mk := (g 76)) (g4 := (g 80)) (mh := (g 78)) (mt := (g 79)) (C := (g 75)) (g8 := (g 81)) (g9 := (g 90)) (g10 := (g 91)) (g11 := (g 92)) R hI.sky (by rw [hI.tape.1]; exact hI.tape.2.1) (by rw [hI.tape.1]; exact hI.tape.2.2.1)
  refine zv_ald (ins := .aload_n 1) (len := 1) hB (by decide +kernel) rfl rfl rfl ?_
  refine zw_arg (j := 1) hB hR i0 i6 hL (by decide +kernel) (by decide) (by decide) rfl ?_
  refine zw_arg (j := 2) hB hR i0 i6 hL (by decide +kernel) (by decide) (by decide) rfl ?_
  refine zv_cv (i := 103) (c := 0) (mm2 := zxm136) (rm2 := (5, 300)) (va := [.inl (zw_a xs i 1), .inl (zw_a xs i 2)]) (S := []) hB (zE_up (by rfl) (by rfl) (by rfl) (by rfl) (by rfl) (zo_X_known e1)) (by decide +kernel) rfl rfl (by decide) (by decide) rfl ?_
  refine zv_pop hB (by decide +kernel) rfl ?_
  refine zv_ald (ins := .aload_n 2) (len := 1) hB (by decide +kernel) rfl rfl rfl ?_
  refine zw_arg (j := 1) hB hR i0 i6 hL (by decide +kernel) (by decide) (by decide) rfl ?_
  refine zw_arg (j := 2) hB hR i0 i6 hL (by decide +kernel) (by decide) (by decide) rfl ?_
  refine zv_cv (i := 106) (c := 1) (mm2 := zxm281) (rm2 := (7, 420)) (va := [.inl (zw_a xs i 1), .inl (zw_a xs i 2)]) (S := []) hB (zE_up (by rfl) (by rfl) (by rfl) (by rfl) (by rfl) (zo_M_known e2)) (by decide +kernel) rfl rfl (by decide) (by decide) rfl ?_
  refine zv_pop hB (by decide +kernel) rfl ?_
  refine zv_goto hB (off := 623) (t := 1593) (by decide +kernel) rfl ?_
  exact zw_tail hB i0 i6 hL (k _ _ ⟨hI.law, hI.sky, hI.sea, zI_size hI h1 (h2.trans (by rw [hI.tape.1])) (by split; exact .inl rfl; split; exact .inl rfl; split; exact .inl rfl; exact .inr rfl), hI.tale, hI.kept, hI.so, hI.le, hI.ln⟩)
theorem zc_named {good : Nat → List zNV → List zNV → List zNV → List (Int → Int) → Prop} {Lx : Nat} {xs : Nat → Int32} {i : Int} {f : Nat → Int} {g : Nat → Int → Int} (hL : Lx ≤ 3072) (hB : zw_B good) (hR : zw_R Lx xs good) (i0 : 0 ≤ i) (i6 : i + 6 ≤ Lx) (hI : zI f g) (k : ∀ f2 g2, zI f2 g2 → good 18 (zw_lc (i + 6)) [] (zE_F f2) (zE_G g2)) : good 973 (zw_lc i) [] (zE_F f) (zE_G g) := by
  obtain ⟨L, R⟩ := hI.law
  have tl := zI_tl hI
  obtain ⟨o1, o2, e1, e2, hr, h1, h2⟩ := yo_named (x := (zw_a xs i 1)) (w := (zw_a xs i 2)) (n := (f 6)) (f4 := (f 25)) (f5 := (f 26)) (f6 := (f 27)) (h := (f 1)) (u := (f 28)) (f9 := (f 29)) (t := (f 0)) (sc := (f 3)) (sr := (f 4)) (cl := (f 2)) (tS := (f 30)) (f15 := (f 31)) (nc := (f 32)) (f17 := (f 33)) (sP := (f 34)) (g0 := (g 15)) (T := (g 7)) (g2 := (g 16)) (co := (g 0)) (ro := (g 1)) (br := (g 2)) (kd := (g 17)) (hf := (g 18)) (to := (g 19)) (K := (g 20)) (g10 := (g 21)) (V := (g 22)) (g12 := (g 39)) (g13 := (g 40)) (g14 := (g 41)) (n2 := (f 74)) (f1 := (f 91)) (mc := (f 83)) (M := (g 68)) (e1 := (g 94)) (e2 := (g 95)) (m := (g 67)) (mk := (g 76)) (e5 := (g 80)) (mh := (g 78)) (mt := (g 79)) (C := (g 75)) (e9 := (g 81)) R hI.sky hI.tape
  refine zv_ald (ins := .aload_n 1) (len := 1) hB (by decide +kernel) rfl rfl rfl ?_
  refine zw_arg (j := 1) hB hR i0 i6 hL (by decide +kernel) (by decide) (by decide) rfl ?_
  refine zw_arg (j := 2) hB hR i0 i6 hL (by decide +kernel) (by decide) (by decide) rfl ?_
  refine zv_cv (i := 107) (c := 0) (mm2 := zxm140) (rm2 := (11, 660)) (va := [.inl (zw_a xs i 1), .inl (zw_a xs i 2)]) (S := []) hB (zE_up (by rfl) (by rfl) (by rfl) (by rfl) (by rfl) (zo_X_named e1)) (by decide +kernel) rfl rfl (by decide) (by decide) rfl ?_
  refine zv_pop hB (by decide +kernel) rfl ?_
  refine zv_ald (ins := .aload_n 2) (len := 1) hB (by decide +kernel) rfl rfl rfl ?_
  refine zw_arg (j := 1) hB hR i0 i6 hL (by decide +kernel) (by decide) (by decide) rfl ?_
  refine zw_arg (j := 2) hB hR i0 i6 hL (by decide +kernel) (by decide) (by decide) rfl ?_
  refine zv_cv (i := 110) (c := 1) (mm2 := zxm283) (rm2 := (5, 300)) (va := [.inl (zw_a xs i 1), .inl (zw_a xs i 2)]) (S := []) hB (zE_up (by rfl) (by rfl) (by rfl) (by rfl) (by rfl) (zo_M_named e2)) (by decide +kernel) rfl rfl (by decide) (by decide) rfl ?_
  refine zv_pop hB (by decide +kernel) rfl ?_
  refine zv_goto hB (off := 590) (t := 1593) (by decide +kernel) rfl ?_
  exact zw_tail hB i0 i6 hL (k _ _ ⟨hI.law, hI.sky, hI.sea, zI_size hI h1 (h2.trans (by rw [hI.tape.1])) (by split; exact .inl rfl; split; exact .inl rfl; split; exact .inl rfl; exact .inr rfl), hI.tale, hI.kept, hI.so, hI.le, hI.ln⟩)
end
section
/-! The calls of the law, case by case. -/
theorem zc_sold {good : Nat → List zNV → List zNV → List zNV → List (Int → Int) → Prop} {Lx : Nat} {xs : Nat → Int32} {i : Int} {f : Nat → Int} {g : Nat → Int → Int} (hL : Lx ≤ 3072) (hB : zw_B good) (hR : zw_R Lx xs good) (i0 : 0 ≤ i) (i6 : i + 6 ≤ Lx) (hI : zI f g) (k : ∀ f2 g2, zI f2 g2 → good 18 (zw_lc (i + 6)) [] (zE_F f2) (zE_G g2)) : good 1006 (zw_lc i) [] (zE_F f) (zE_G g) := by
  obtain ⟨L, R⟩ := hI.law
  have tl := zI_tl hI
  obtain ⟨v0, v1, v2, v3, v4, v5, v6, v7, v8, v9, v10, v11, v12, e1, e2⟩ := yo_sold (a := (zw_a xs i 1)) (b := (zw_a xs i 2)) (h := (f 1)) (u := (f 28)) (t := (f 0)) (nc := (f 32)) (f5 := (f 33)) (g0 := (g 16)) (g1 := (g 42)) (g2 := (g 43)) (br := (g 2)) (ro := (g 1)) (co := (g 0)) (kd := (g 17)) (hf := (g 18)) (to := (g 19)) (K := (g 20)) (g10 := (g 21)) (V := (g 22)) (fr := (g 44)) (g13 := (g 45)) (g14 := (g 46)) (mc := (f 83)) (q0 := (g 80)) (m := (g 67)) (q2 := (g 96)) (q3 := (g 97)) (mk := (g 76)) (mh := (g 78)) (mt := (g 79)) (C := (g 75)) (q8 := (g 81)) (mf := (g 77)) (q10 := (g 98)) R hI.sky
  refine zv_ald (ins := .aload_n 1) (len := 1) hB (by decide +kernel) rfl rfl rfl ?_
  refine zw_arg (j := 1) hB hR i0 i6 hL (by decide +kernel) (by decide) (by decide) rfl ?_
  refine zw_arg (j := 2) hB hR i0 i6 hL (by decide +kernel) (by decide) (by decide) rfl ?_
  refine zv_cv (i := 111) (c := 0) (mm2 := zxm144) (rm2 := (4, 240)) (va := [.inl (zw_a xs i 1), .inl (zw_a xs i 2)]) (S := []) hB (zE_up (by rfl) (by rfl) (by rfl) (by rfl) (by rfl) (zo_X_sold e1)) (by decide +kernel) rfl rfl (by decide) (by decide) rfl ?_
  refine zv_pop hB (by decide +kernel) rfl ?_
  refine zv_ald (ins := .aload_n 2) (len := 1) hB (by decide +kernel) rfl rfl rfl ?_
  refine zw_arg (j := 1) hB hR i0 i6 hL (by decide +kernel) (by decide) (by decide) rfl ?_
  refine zw_arg (j := 2) hB hR i0 i6 hL (by decide +kernel) (by decide) (by decide) rfl ?_
  refine zv_cv (i := 114) (c := 1) (mm2 := zxm287) (rm2 := (3, 180)) (va := [.inl (zw_a xs i 1), .inl (zw_a xs i 2)]) (S := []) hB (zE_up (by rfl) (by rfl) (by rfl) (by rfl) (by rfl) (zo_M_sold e2)) (by decide +kernel) rfl rfl (by decide) (by decide) rfl ?_
  refine zv_pop hB (by decide +kernel) rfl ?_
  refine zv_goto hB (off := 557) (t := 1593) (by decide +kernel) rfl ?_
  exact zw_tail hB i0 i6 hL (k _ _ ⟨hI.law, hI.sky, hI.sea, hI.tape, hI.tale, hI.kept, hI.so, hI.le, hI.ln⟩)
theorem zc_steered {good : Nat → List zNV → List zNV → List zNV → List (Int → Int) → Prop} {Lx : Nat} {xs : Nat → Int32} {i : Int} {f : Nat → Int} {g : Nat → Int → Int} (hL : Lx ≤ 3072) (hB : zw_B good) (hR : zw_R Lx xs good) (i0 : 0 ≤ i) (i6 : i + 6 ≤ Lx) (hI : zI f g) (k : ∀ f2 g2, zI f2 g2 → good 18 (zw_lc (i + 6)) [] (zE_F f2) (zE_G g2)) : good 1039 (zw_lc i) [] (zE_F f) (zE_G g) := by
  obtain ⟨L, R⟩ := hI.law
  have tl := zI_tl hI
  obtain ⟨v0, v1, v2, v3, v4, v5, v6, v7, v8, v9, v10, v11, v12, v13, v14, v15, v16, v17, v18, e1, e2, k', z'⟩ := yo_steered (s := (zw_a xs i 1)) (i := (zw_a xs i 2)) (N := (zw_a xs i 3)) (dr := (if zw_a xs i 4 = 0 then 0 else 1)) (ts := (f 5)) (t := (f 0)) (f5 := (f 25)) (f6 := (f 26)) (f7 := (f 27)) (h := (f 1)) (u := (f 28)) (sc := (f 3)) (sr := (f 4)) (cl := (f 2)) (tS := (f 30)) (f14 := (f 31)) (nc := (f 32)) (f16 := (f 33)) (sP := (f 34)) (ch := (f 48)) (gp := (g 5)) (g1 := (g 15)) (g2 := (g 16)) (co := (g 0)) (ro := (g 1)) (br := (g 2)) (kd := (g 17)) (hf := (g 18)) (to := (g 19)) (K := (g 20)) (g10 := (g 21)) (V := (g 22)) (gl := (g 6)) (wc := (g 3)) (wr := (g 4)) (fr := (g 44)) (mc := (f 83)) (m := (g 67)) (mk := (g 76)) (S2 := (g 80)) (mh := (g 78)) (mt := (g 79)) (C := (g 75)) (mS := (g 81)) (mf := (g 77)) (f8 := 0) (f9 := 0) R hI.sky hI.sea
  refine zv_ald (ins := .aload_n 1) (len := 1) hB (by decide +kernel) rfl rfl rfl ?_
  refine zw_arg (j := 1) hB hR i0 i6 hL (by decide +kernel) (by decide) (by decide) rfl ?_
  refine zw_arg (j := 2) hB hR i0 i6 hL (by decide +kernel) (by decide) (by decide) rfl ?_
  refine zw_arg (j := 3) hB hR i0 i6 hL (by decide +kernel) (by decide) (by decide) rfl ?_
  refine zw_arg (j := 4) hB hR i0 i6 hL (by decide +kernel) (by decide) (by decide) rfl ?_
  refine zw_bool (pc := 1060) hB (by decide +kernel) (by decide +kernel) (by decide +kernel) (by decide +kernel) rfl rfl ?_
  refine zv_cv (i := 115) (c := 0) (mm2 := zxm151) (rm2 := (5, 300)) (va := [.inl (zw_a xs i 1), .inl (zw_a xs i 2), .inl (zw_a xs i 3), .inl (if zw_a xs i 4 = 0 then 0 else 1)]) (S := []) hB (zE_up (by rfl) (by rfl) (by rfl) (by rfl) (by rfl) (zo_X_steered e1)) (by decide +kernel) rfl rfl (by decide) (by decide) rfl ?_
  refine zv_pop hB (by decide +kernel) rfl ?_
  refine zv_ald (ins := .aload_n 2) (len := 1) hB (by decide +kernel) rfl rfl rfl ?_
  refine zw_arg (j := 1) hB hR i0 i6 hL (by decide +kernel) (by decide) (by decide) rfl ?_
  refine zw_arg (j := 2) hB hR i0 i6 hL (by decide +kernel) (by decide) (by decide) rfl ?_
  refine zw_arg (j := 3) hB hR i0 i6 hL (by decide +kernel) (by decide) (by decide) rfl ?_
  refine zw_arg (j := 4) hB hR i0 i6 hL (by decide +kernel) (by decide) (by decide) rfl ?_
  refine zw_bool (pc := 1093) hB (by decide +kernel) (by decide +kernel) (by decide +kernel) (by decide +kernel) rfl rfl ?_
  refine zv_cv (i := 119) (c := 1) (mm2 := zxm289) (rm2 := (6, 360)) (va := [.inl (zw_a xs i 1), .inl (zw_a xs i 2), .inl (zw_a xs i 3), .inl (if zw_a xs i 4 = 0 then 0 else 1)]) (S := []) hB (zE_up (by rfl) (by rfl) (by rfl) (by rfl) (by rfl) (zo_M_steered e2)) (by decide +kernel) rfl rfl (by decide) (by decide) rfl ?_
  refine zv_pop hB (by decide +kernel) rfl ?_
  refine zv_goto hB (off := 488) (t := 1593) (by decide +kernel) rfl ?_
  exact zw_tail hB i0 i6 hL (k _ _ ⟨hI.law, k', z', hI.tape, hI.tale, hI.kept, hI.so, hI.le, hI.ln⟩)
theorem zc_hours {good : Nat → List zNV → List zNV → List zNV → List (Int → Int) → Prop} {Lx : Nat} {xs : Nat → Int32} {i : Int} {f : Nat → Int} {g : Nat → Int → Int} (hL : Lx ≤ 3072) (hB : zw_B good) (hR : zw_R Lx xs good) (i0 : 0 ≤ i) (i6 : i + 6 ≤ Lx) (hI : zI f g) (k : ∀ f2 g2, zI f2 g2 → good 18 (zw_lc (i + 6)) [] (zE_F f2) (zE_G g2)) : good 1108 (zw_lc i) [] (zE_F f) (zE_G g) := by
  obtain ⟨L, R⟩ := hI.law
  have tl := zI_tl hI
  obtain ⟨v0, v1, v2, v3, v4, v5, e1, e2, k', fr⟩ := yo_hours (N := (zw_a xs i 1)) (h := (f 1)) (u := (f 28)) (co := (g 0)) (wc := (g 3)) (ro := (g 1)) (wr := (g 4)) (m := (g 67)) hI.sky
  refine zv_ald (ins := .aload_n 1) (len := 1) hB (by decide +kernel) rfl rfl rfl ?_
  refine zw_arg (j := 1) hB hR i0 i6 hL (by decide +kernel) (by decide) (by decide) rfl ?_
  refine zv_cv (i := 120) (c := 0) (mm2 := zxm159) (rm2 := (4, 240)) (va := [.inl (zw_a xs i 1)]) (S := []) hB (zE_up (by rfl) (by rfl) (by rfl) (by rfl) (by rfl) (zo_X_hours e1)) (by decide +kernel) rfl rfl (by decide) (by decide) rfl ?_
  refine zv_pop hB (by decide +kernel) rfl ?_
  refine zv_ald (ins := .aload_n 2) (len := 1) hB (by decide +kernel) rfl rfl rfl ?_
  refine zw_arg (j := 1) hB hR i0 i6 hL (by decide +kernel) (by decide) (by decide) rfl ?_
  refine zv_cv (i := 123) (c := 1) (mm2 := zxm297) (rm2 := (4, 240)) (va := [.inl (zw_a xs i 1)]) (S := []) hB (zE_up (by rfl) (by rfl) (by rfl) (by rfl) (by rfl) (zo_M_hours e2)) (by decide +kernel) rfl rfl (by decide) (by decide) rfl ?_
  refine zv_pop hB (by decide +kernel) rfl ?_
  refine zv_goto hB (off := 465) (t := 1593) (by decide +kernel) rfl ?_
  exact zw_tail hB i0 i6 hL (k _ _ ⟨hI.law, k', yk_sea_fr hI.sea fun j hj => fr j (by omega) (by omega) (by omega), hI.tape, hI.tale, hI.kept, hI.so, hI.le, hI.ln⟩)
theorem zc_found {good : Nat → List zNV → List zNV → List zNV → List (Int → Int) → Prop} {Lx : Nat} {xs : Nat → Int32} {i : Int} {f : Nat → Int} {g : Nat → Int → Int} (hL : Lx ≤ 3072) (hB : zw_B good) (hR : zw_R Lx xs good) (i0 : 0 ≤ i) (i6 : i + 6 ≤ Lx) (hI : zI f g) (k : ∀ f2 g2, zI f2 g2 → good 18 (zw_lc (i + 6)) [] (zE_F f2) (zE_G g2)) : good 1131 (zw_lc i) [] (zE_F f) (zE_G g) := by
  obtain ⟨L, R⟩ := hI.law
  have tl := zI_tl hI
  obtain ⟨v0, v1, v2, v3, v4, e1, e2, p', fr⟩ := yo_found (t := (f 0)) (n := (f 6)) (T := (g 7)) (co := (g 0)) (wc := (g 3)) (ro := (g 1)) (wr := (g 4)) (n2 := (f 74)) (m := (g 67)) (mA := (g 99)) (M := (g 68)) hI.sky hI.tape
  refine zv_ald (ins := .aload_n 1) (len := 1) hB (by decide +kernel) rfl rfl rfl ?_
  refine zv_cv (i := 124) (c := 0) (mm2 := zxm160) (rm2 := (2, 120)) (va := []) (S := []) hB (zE_up (by rfl) (by rfl) (by rfl) (by rfl) (by rfl) (zo_X_found e1)) (by decide +kernel) rfl rfl (by decide) (by decide) rfl ?_
  refine zv_pop hB (by decide +kernel) rfl ?_
  refine zv_ald (ins := .aload_n 2) (len := 1) hB (by decide +kernel) rfl rfl rfl ?_
  refine zv_cv (i := 128) (c := 1) (mm2 := zxm298) (rm2 := (3, 180)) (va := []) (S := []) hB (zE_up (by rfl) (by rfl) (by rfl) (by rfl) (by rfl) (zo_M_found e2)) (by decide +kernel) rfl rfl (by decide) (by decide) rfl ?_
  refine zv_pop hB (by decide +kernel) rfl ?_
  refine zv_goto hB (off := 452) (t := 1593) (by decide +kernel) rfl ?_
  exact zw_tail hB i0 i6 hL (k _ _ ⟨hI.law, zI_sky hI fr, zI_sea hI fr, p', hI.tale, hI.kept, hI.so, hI.le, hI.ln⟩)
theorem zc_meeting {good : Nat → List zNV → List zNV → List zNV → List (Int → Int) → Prop} {Lx : Nat} {xs : Nat → Int32} {i : Int} {f : Nat → Int} {g : Nat → Int → Int} (hL : Lx ≤ 3072) (hB : zw_B good) (hR : zw_R Lx xs good) (i0 : 0 ≤ i) (i6 : i + 6 ≤ Lx) (hI : zI f g) (k : ∀ f2 g2, zI f2 g2 → good 18 (zw_lc (i + 6)) [] (zE_F f2) (zE_G g2)) : good 1144 (zw_lc i) [] (zE_F f) (zE_G g) := by
  obtain ⟨L, R⟩ := hI.law
  have tl := zI_tl hI
  obtain ⟨v0, v1, v2, v3, v4, v5, v6, e1, e2⟩ := yo_meeting (a := (zw_a xs i 1)) (b := (zw_a xs i 2)) (w := (zw_a xs i 3)) (ts := (f 5)) (gp := (g 5)) (h1 := (g 47)) (q1 := (g 48)) (gl := (g 6)) (h3 := (g 49)) (m := (g 67)) (fA := (g 100)) (q2 := (g 101)) (fB := (g 102)) hI.sea
  refine zv_ald (ins := .aload_n 1) (len := 1) hB (by decide +kernel) rfl rfl rfl ?_
  refine zw_arg (j := 1) hB hR i0 i6 hL (by decide +kernel) (by decide) (by decide) rfl ?_
  refine zw_arg (j := 2) hB hR i0 i6 hL (by decide +kernel) (by decide) (by decide) rfl ?_
  refine zw_arg (j := 3) hB hR i0 i6 hL (by decide +kernel) (by decide) (by decide) rfl ?_
  refine zv_cv (i := 129) (c := 0) (mm2 := zxm161) (rm2 := (5, 300)) (va := [.inl (zw_a xs i 1), .inl (zw_a xs i 2), .inl (zw_a xs i 3)]) (S := []) hB (zE_up (by rfl) (by rfl) (by rfl) (by rfl) (by rfl) (zo_X_meeting e1)) (by decide +kernel) rfl rfl (by decide) (by decide) rfl ?_
  refine zv_pop hB (by decide +kernel) rfl ?_
  refine zv_ald (ins := .aload_n 2) (len := 1) hB (by decide +kernel) rfl rfl rfl ?_
  refine zw_arg (j := 1) hB hR i0 i6 hL (by decide +kernel) (by decide) (by decide) rfl ?_
  refine zw_arg (j := 2) hB hR i0 i6 hL (by decide +kernel) (by decide) (by decide) rfl ?_
  refine zw_arg (j := 3) hB hR i0 i6 hL (by decide +kernel) (by decide) (by decide) rfl ?_
  refine zv_cv (i := 132) (c := 1) (mm2 := zxm302) (rm2 := (2, 120)) (va := [.inl (zw_a xs i 1), .inl (zw_a xs i 2), .inl (zw_a xs i 3)]) (S := []) hB (zE_up (by rfl) (by rfl) (by rfl) (by rfl) (by rfl) (zo_M_meeting e2)) (by decide +kernel) rfl rfl (by decide) (by decide) rfl ?_
  refine zv_pop hB (by decide +kernel) rfl ?_
  refine zv_goto hB (off := 409) (t := 1593) (by decide +kernel) rfl ?_
  exact zw_tail hB i0 i6 hL (k _ _ ⟨hI.law, hI.sky, hI.sea, hI.tape, hI.tale, hI.kept, hI.so, hI.le, hI.ln⟩)
theorem zc_fastest {good : Nat → List zNV → List zNV → List zNV → List (Int → Int) → Prop} {Lx : Nat} {xs : Nat → Int32} {i : Int} {f : Nat → Int} {g : Nat → Int → Int} (hL : Lx ≤ 3072) (hB : zw_B good) (hR : zw_R Lx xs good) (i0 : 0 ≤ i) (i6 : i + 6 ≤ Lx) (hI : zI f g) (k : ∀ f2 g2, zI f2 g2 → good 18 (zw_lc (i + 6)) [] (zE_F f2) (zE_G g2)) : good 1187 (zw_lc i) [] (zE_F f) (zE_G g) := by
  obtain ⟨L, R⟩ := hI.law
  have tl := zI_tl hI
  obtain ⟨o1, o2, e1, e2, hr, h2⟩ := yo_fastest (s := (zw_a xs i 1)) (x := (zw_a xs i 2)) (y := (zw_a xs i 3)) (n := (zw_a xs i 4)) (w := (zw_a xs i 5)) (ts := (f 5)) (t := (f 0)) (f2 := (f 42)) (h := (f 1)) (f4 := (f 43)) (u := (f 28)) (f6 := (f 44)) (cl := (f 2)) (f8 := (f 45)) (sc := (f 3)) (f10 := (f 46)) (sr := (f 4)) (f12 := (f 47)) (ch := (f 48)) (f14 := (f 49)) (f18 := (f 25)) (f19 := (f 26)) (f20 := (f 27)) (tS := (f 30)) (f22 := (f 31)) (nc := (f 32)) (f24 := (f 33)) (sP := (f 34)) (f26 := (f 51)) (f27 := (f 52)) (co := (g 0)) (g1 := (g 29)) (ro := (g 1)) (g3 := (g 30)) (br := (g 2)) (g5 := (g 31)) (wc := (g 3)) (g7 := (g 32)) (wr := (g 4)) (g9 := (g 33)) (g10 := (g 15)) (gp := (g 5)) (g12 := (g 50)) (g13 := (g 16)) (kd := (g 17)) (hf := (g 18)) (to := (g 19)) (K := (g 20)) (g18 := (g 21)) (V := (g 22)) (gl := (g 6)) (mc := (f 83)) (m := (g 67)) (aA := (g 99)) (mk := (g 76)) (g := (g 80)) (mh := (g 78)) (mt := (g 79)) (C := (g 75)) (S := (g 81)) (mf := (g 77)) R hI.sky hI.sea
  refine zv_ald (ins := .aload_n 1) (len := 1) hB (by decide +kernel) rfl rfl rfl ?_
  refine zw_arg (j := 1) hB hR i0 i6 hL (by decide +kernel) (by decide) (by decide) rfl ?_
  refine zw_arg (j := 2) hB hR i0 i6 hL (by decide +kernel) (by decide) (by decide) rfl ?_
  refine zw_arg (j := 3) hB hR i0 i6 hL (by decide +kernel) (by decide) (by decide) rfl ?_
  refine zw_arg (j := 4) hB hR i0 i6 hL (by decide +kernel) (by decide) (by decide) rfl ?_
  refine zw_arg (j := 5) hB hR i0 i6 hL (by decide +kernel) (by decide) (by decide) rfl ?_
  refine zv_cv (i := 133) (c := 0) (mm2 := zxm165) (rm2 := (7, 420)) (va := [.inl (zw_a xs i 1), .inl (zw_a xs i 2), .inl (zw_a xs i 3), .inl (zw_a xs i 4), .inl (zw_a xs i 5)]) (S := []) hB (zE_up (by rfl) (by rfl) (by rfl) (by rfl) (by rfl) (zo_X_fastest e1)) (by decide +kernel) rfl rfl (by decide) (by decide) rfl ?_
  refine zv_pop hB (by decide +kernel) rfl ?_
  refine zv_ald (ins := .aload_n 2) (len := 1) hB (by decide +kernel) rfl rfl rfl ?_
  refine zw_arg (j := 1) hB hR i0 i6 hL (by decide +kernel) (by decide) (by decide) rfl ?_
  refine zw_arg (j := 2) hB hR i0 i6 hL (by decide +kernel) (by decide) (by decide) rfl ?_
  refine zw_arg (j := 3) hB hR i0 i6 hL (by decide +kernel) (by decide) (by decide) rfl ?_
  refine zw_arg (j := 4) hB hR i0 i6 hL (by decide +kernel) (by decide) (by decide) rfl ?_
  refine zw_arg (j := 5) hB hR i0 i6 hL (by decide +kernel) (by decide) (by decide) rfl ?_
  refine zv_cv (i := 136) (c := 1) (mm2 := zxm305) (rm2 := (7, 420)) (va := [.inl (zw_a xs i 1), .inl (zw_a xs i 2), .inl (zw_a xs i 3), .inl (zw_a xs i 4), .inl (zw_a xs i 5)]) (S := []) hB (zE_up (by rfl) (by rfl) (by rfl) (by rfl) (by rfl) (zo_M_fastest e2)) (by decide +kernel) rfl rfl (by decide) (by decide) rfl ?_
  refine zv_pop hB (by decide +kernel) rfl ?_
  refine zv_goto hB (off := 346) (t := 1593) (by decide +kernel) rfl ?_
  exact zw_tail hB i0 i6 hL (k _ _ ⟨hI.law, zI_sky hI h2, zI_sea hI h2, hI.tape, hI.tale, hI.kept, hI.so, hI.le, hI.ln⟩)
theorem zc_byTwo {good : Nat → List zNV → List zNV → List zNV → List (Int → Int) → Prop} {Lx : Nat} {xs : Nat → Int32} {i : Int} {f : Nat → Int} {g : Nat → Int → Int} (hL : Lx ≤ 3072) (hB : zw_B good) (hR : zw_R Lx xs good) (i0 : 0 ≤ i) (i6 : i + 6 ≤ Lx) (hI : zI f g) (k : ∀ f2 g2, zI f2 g2 → good 18 (zw_lc (i + 6)) [] (zE_F f2) (zE_G g2)) : good 1250 (zw_lc i) [] (zE_F f) (zE_G g) := by
  obtain ⟨L, R⟩ := hI.law
  have tl := zI_tl hI
  obtain ⟨o1, e1, h1⟩ := yw_byTwoX (s := (zw_a xs i 1)) (x := (zw_a xs i 2)) (y := (zw_a xs i 3)) (n := (zw_a xs i 4)) (w := (zw_a xs i 5)) (ts := (f 5)) (t := (f 0)) (f2 := (f 42)) (h := (f 1)) (f4 := (f 43)) (u := (f 28)) (f6 := (f 44)) (cl := (f 2)) (f8 := (f 45)) (sc := (f 3)) (f10 := (f 46)) (sr := (f 4)) (f12 := (f 47)) (ch := (f 48)) (f14 := (f 49)) (f18 := (f 25)) (f19 := (f 53)) (f20 := (f 26)) (f21 := (f 27)) (tS := (f 30)) (f23 := (f 31)) (nc := (f 32)) (f25 := (f 33)) (sP := (f 34)) (f27 := (f 54)) (f28 := (f 51)) (f29 := (f 52)) (f30 := (f 55)) (f31 := (f 56)) (co := (g 0)) (g1 := (g 29)) (ro := (g 1)) (g3 := (g 30)) (br := (g 2)) (g5 := (g 31)) (wc := (g 3)) (g7 := (g 32)) (wr := (g 4)) (g9 := (g 33)) (g10 := (g 15)) (gp := (g 5)) (g12 := (g 50)) (g13 := (g 16)) (kd := (g 17)) (hf := (g 18)) (to := (g 19)) (K := (g 20)) (g18 := (g 21)) (V := (g 22)) (gl := (g 6)) (g21 := (g 51)) (g22 := (g 52)) (g23 := (g 53)) (g24 := (g 54)) (g25 := (g 55)) R hI.sky hI.sea hI.le hI.ln
  obtain ⟨o2, e2, h2⟩ := yw_byTwoM (s := (zw_a xs i 1)) (x := (zw_a xs i 2)) (y := (zw_a xs i 3)) (n := (zw_a xs i 4)) (w := (zw_a xs i 5)) (mc := (f 83)) (f1 := (f 92)) (f2 := (f 93)) (f3 := (f 94)) (f4 := (f 95)) (m := (g 67)) (aA := (g 99)) (mk := (g 76)) (g := (g 80)) (mh := (g 78)) (mt := (g 79)) (C := (g 75)) (S := (g 81)) (mf := (g 77)) R hI.sky hI.sea
  refine zv_ald (ins := .aload_n 1) (len := 1) hB (by decide +kernel) rfl rfl rfl ?_
  refine zw_arg (j := 1) hB hR i0 i6 hL (by decide +kernel) (by decide) (by decide) rfl ?_
  refine zw_arg (j := 2) hB hR i0 i6 hL (by decide +kernel) (by decide) (by decide) rfl ?_
  refine zw_arg (j := 3) hB hR i0 i6 hL (by decide +kernel) (by decide) (by decide) rfl ?_
  refine zw_arg (j := 4) hB hR i0 i6 hL (by decide +kernel) (by decide) (by decide) rfl ?_
  refine zw_arg (j := 5) hB hR i0 i6 hL (by decide +kernel) (by decide) (by decide) rfl ?_
  refine zv_cv (i := 137) (c := 0) (mm2 := zxm170) (rm2 := (7, 420)) (va := [.inl (zw_a xs i 1), .inl (zw_a xs i 2), .inl (zw_a xs i 3), .inl (zw_a xs i 4), .inl (zw_a xs i 5)]) (S := []) hB (zE_up (by rfl) (by rfl) (by rfl) (by rfl) (by rfl) (zo_X_byTwo e1)) (by decide +kernel) rfl rfl (by decide) (by decide) rfl ?_
  refine zv_pop hB (by decide +kernel) rfl ?_
  refine zv_ald (ins := .aload_n 2) (len := 1) hB (by decide +kernel) rfl rfl rfl ?_
  refine zw_arg (j := 1) hB hR i0 i6 hL (by decide +kernel) (by decide) (by decide) rfl ?_
  refine zw_arg (j := 2) hB hR i0 i6 hL (by decide +kernel) (by decide) (by decide) rfl ?_
  refine zw_arg (j := 3) hB hR i0 i6 hL (by decide +kernel) (by decide) (by decide) rfl ?_
  refine zw_arg (j := 4) hB hR i0 i6 hL (by decide +kernel) (by decide) (by decide) rfl ?_
  refine zw_arg (j := 5) hB hR i0 i6 hL (by decide +kernel) (by decide) (by decide) rfl ?_
  refine zv_cv (i := 140) (c := 1) (mm2 := zxm307) (rm2 := (8, 480)) (va := [.inl (zw_a xs i 1), .inl (zw_a xs i 2), .inl (zw_a xs i 3), .inl (zw_a xs i 4), .inl (zw_a xs i 5)]) (S := []) hB (zE_up (by rfl) (by rfl) (by rfl) (by rfl) (by rfl) (zo_M_byTwo e2)) (by decide +kernel) rfl rfl (by decide) (by decide) rfl ?_
  refine zv_pop hB (by decide +kernel) rfl ?_
  refine zv_goto hB (off := 283) (t := 1593) (by decide +kernel) rfl ?_
  exact zw_tail hB i0 i6 hL (k _ _ ⟨hI.law, zI_sky hI h2, zI_sea hI h2, hI.tape, hI.tale, hI.kept, hI.so, h1.1, h1.2⟩)
theorem zc_both {good : Nat → List zNV → List zNV → List zNV → List (Int → Int) → Prop} {Lx : Nat} {xs : Nat → Int32} {i : Int} {f : Nat → Int} {g : Nat → Int → Int} (hL : Lx ≤ 3072) (hB : zw_B good) (hR : zw_R Lx xs good) (i0 : 0 ≤ i) (i6 : i + 6 ≤ Lx) (hI : zI f g) (k : ∀ f2 g2, zI f2 g2 → good 18 (zw_lc (i + 6)) [] (zE_F f2) (zE_G g2)) : good 1313 (zw_lc i) [] (zE_F f) (zE_G g) := by
  obtain ⟨L, R⟩ := hI.law
  have tl := zI_tl hI
  obtain ⟨o1, o2, e1, e2, hr, h1⟩ := yo_both (x := (zw_a xs i 1)) (y := (zw_a xs i 2)) (w := (zw_a xs i 3)) (f3 := (f 25)) (f4 := (f 26)) (f5 := (f 27)) (h := (f 1)) (u := (f 28)) (f8 := (f 29)) (t := (f 0)) (sc := (f 3)) (sr := (f 4)) (cl := (f 2)) (tS := (f 30)) (f14 := (f 31)) (nc := (f 32)) (f16 := (f 33)) (sP := (f 34)) (tL := (f 35)) (lP := (f 36)) (f22 := (f 59)) (f23 := (f 60)) (f24 := (f 61)) (f25 := (f 62)) (f26 := (f 63)) (n := (f 37)) (f31 := (f 41)) (ni := (f 38)) (g0 := (g 15)) (g1 := (g 16)) (co := (g 0)) (ro := (g 1)) (br := (g 2)) (kd := (g 17)) (hf := (g 18)) (to := (g 19)) (K := (g 20)) (g9 := (g 21)) (V := (g 22)) (g11 := (g 23)) (g12 := (g 24)) (g13 := (g 56)) (g14 := (g 57)) (g15 := (g 58)) (g16 := (g 25)) (nr := (g 26)) (g18 := (g 27)) (g19 := (g 28)) (mc := (f 83)) (f1 := (f 84)) (f2 := (f 90)) (m := (g 67)) (mk := (g 76)) (e2 := (g 80)) (mh := (g 78)) (mt := (g 79)) (C := (g 75)) (e6 := (g 81)) (e7 := (g 82)) (e8 := (g 103)) (e9 := (g 87)) (e10 := (g 88)) (tf := (g 85)) (tt := (g 86)) (e13 := (g 89)) R hI.sky hI.tale.2.2 hI.so
  rw [← hI.tale.1, ← hI.tale.2.1] at e2
  refine zv_ald (ins := .aload_n 1) (len := 1) hB (by decide +kernel) rfl rfl rfl ?_
  refine zw_arg (j := 1) hB hR i0 i6 hL (by decide +kernel) (by decide) (by decide) rfl ?_
  refine zw_arg (j := 2) hB hR i0 i6 hL (by decide +kernel) (by decide) (by decide) rfl ?_
  refine zw_arg (j := 3) hB hR i0 i6 hL (by decide +kernel) (by decide) (by decide) rfl ?_
  refine zv_cv (i := 141) (c := 0) (mm2 := zxm175) (rm2 := (13, 780)) (va := [.inl (zw_a xs i 1), .inl (zw_a xs i 2), .inl (zw_a xs i 3)]) (S := []) hB (zE_up (by rfl) (by rfl) (by rfl) (by rfl) (by rfl) (zo_X_both e1)) (by decide +kernel) rfl rfl (by decide) (by decide) rfl ?_
  refine zv_pop hB (by decide +kernel) rfl ?_
  refine zv_ald (ins := .aload_n 2) (len := 1) hB (by decide +kernel) rfl rfl rfl ?_
  refine zw_arg (j := 1) hB hR i0 i6 hL (by decide +kernel) (by decide) (by decide) rfl ?_
  refine zw_arg (j := 2) hB hR i0 i6 hL (by decide +kernel) (by decide) (by decide) rfl ?_
  refine zw_arg (j := 3) hB hR i0 i6 hL (by decide +kernel) (by decide) (by decide) rfl ?_
  refine zv_cv (i := 144) (c := 1) (mm2 := zxm310) (rm2 := (7, 420)) (va := [.inl (zw_a xs i 1), .inl (zw_a xs i 2), .inl (zw_a xs i 3)]) (S := []) hB (zE_up (by rfl) (by rfl) (by rfl) (by rfl) (by rfl) (zo_M_both e2)) (by decide +kernel) rfl rfl (by decide) (by decide) rfl ?_
  refine zv_pop hB (by decide +kernel) rfl ?_
  refine zv_goto hB (off := 240) (t := 1593) (by decide +kernel) rfl ?_
  exact zw_tail hB i0 i6 hL (k _ _ ⟨hI.law, hI.sky, hI.sea, hI.tape, hI.tale, hI.kept, h1, hI.le, hI.ln⟩)
theorem zc_hidden {good : Nat → List zNV → List zNV → List zNV → List (Int → Int) → Prop} {Lx : Nat} {xs : Nat → Int32} {i : Int} {f : Nat → Int} {g : Nat → Int → Int} (hL : Lx ≤ 3072) (hB : zw_B good) (hR : zw_R Lx xs good) (i0 : 0 ≤ i) (i6 : i + 6 ≤ Lx) (hI : zI f g) (k : ∀ f2 g2, zI f2 g2 → good 18 (zw_lc (i + 6)) [] (zE_F f2) (zE_G g2)) : good 1356 (zw_lc i) [] (zE_F f) (zE_G g) := by
  obtain ⟨L, R⟩ := hI.law
  have tl := zI_tl hI
  obtain ⟨o1, o2, e1, e2, hr, h1, h2⟩ := yo_hidden (x := (zw_a xs i 1)) (y := (zw_a xs i 2)) (w := (zw_a xs i 3)) (n := (f 37)) (f5 := (f 25)) (f6 := (f 26)) (f7 := (f 27)) (h := (f 1)) (u := (f 28)) (f10 := (f 29)) (t := (f 0)) (sc := (f 3)) (sr := (f 4)) (cl := (f 2)) (tS := (f 30)) (f16 := (f 31)) (nc := (f 32)) (f18 := (f 33)) (sP := (f 34)) (tL := (f 35)) (lP := (f 36)) (f24 := (f 41)) (ni := (f 38)) (f26 := (f 64)) (g0 := (g 15)) (g1 := (g 16)) (co := (g 0)) (ro := (g 1)) (br := (g 2)) (kd := (g 17)) (hf := (g 18)) (to := (g 19)) (K := (g 20)) (g9 := (g 21)) (V := (g 22)) (g11 := (g 23)) (g12 := (g 24)) (g13 := (g 25)) (nr := (g 26)) (g15 := (g 27)) (g16 := (g 28)) (mc := (f 83)) (f2 := (f 84)) (f3 := (f 90)) (m := (g 67)) (mk := (g 76)) (e2 := (g 80)) (mh := (g 78)) (mt := (g 79)) (C := (g 75)) (e6 := (g 81)) (e7 := (g 82)) (e8 := (g 87)) (e9 := (g 88)) (tf := (g 85)) (tt := (g 86)) (e12 := (g 89)) R hI.sky hI.tale.2.2 hI.so
  rw [← hI.tale.1, ← hI.tale.2.1] at e2
  refine zv_ald (ins := .aload_n 1) (len := 1) hB (by decide +kernel) rfl rfl rfl ?_
  refine zw_arg (j := 1) hB hR i0 i6 hL (by decide +kernel) (by decide) (by decide) rfl ?_
  refine zw_arg (j := 2) hB hR i0 i6 hL (by decide +kernel) (by decide) (by decide) rfl ?_
  refine zw_arg (j := 3) hB hR i0 i6 hL (by decide +kernel) (by decide) (by decide) rfl ?_
  refine zv_cv (i := 145) (c := 0) (mm2 := zxm177) (rm2 := (21, 1260)) (va := [.inl (zw_a xs i 1), .inl (zw_a xs i 2), .inl (zw_a xs i 3)]) (S := []) hB (zE_up (by rfl) (by rfl) (by rfl) (by rfl) (by rfl) (zo_X_hidden e1)) (by decide +kernel) rfl rfl (by decide) (by decide) rfl ?_
  refine zv_pop hB (by decide +kernel) rfl ?_
  refine zv_ald (ins := .aload_n 2) (len := 1) hB (by decide +kernel) rfl rfl rfl ?_
  refine zw_arg (j := 1) hB hR i0 i6 hL (by decide +kernel) (by decide) (by decide) rfl ?_
  refine zw_arg (j := 2) hB hR i0 i6 hL (by decide +kernel) (by decide) (by decide) rfl ?_
  refine zw_arg (j := 3) hB hR i0 i6 hL (by decide +kernel) (by decide) (by decide) rfl ?_
  refine zv_cv (i := 148) (c := 1) (mm2 := zxm312) (rm2 := (8, 480)) (va := [.inl (zw_a xs i 1), .inl (zw_a xs i 2), .inl (zw_a xs i 3)]) (S := []) hB (zE_up (by rfl) (by rfl) (by rfl) (by rfl) (by rfl) (zo_M_hidden e2)) (by decide +kernel) rfl rfl (by decide) (by decide) rfl ?_
  refine zv_pop hB (by decide +kernel) rfl ?_
  refine zv_goto hB (off := 197) (t := 1593) (by decide +kernel) rfl ?_
  exact zw_tail hB i0 i6 hL (k _ _ ⟨hI.law, zI_sky hI fun j _ _ => h2 j, zI_sea hI fun j _ _ => h2 j, hI.tape, hI.tale, hI.kept, h1, hI.le, hI.ln⟩)
theorem zc_log {good : Nat → List zNV → List zNV → List zNV → List (Int → Int) → Prop} {Lx : Nat} {xs : Nat → Int32} {i : Int} {f : Nat → Int} {g : Nat → Int → Int} (hL : Lx ≤ 3072) (hB : zw_B good) (hR : zw_R Lx xs good) (i0 : 0 ≤ i) (i6 : i + 6 ≤ Lx) (hI : zI f g) (k : ∀ f2 g2, zI f2 g2 → good 18 (zw_lc (i + 6)) [] (zE_F f2) (zE_G g2)) : good 1399 (zw_lc i) [] (zE_F f) (zE_G g) := by
  obtain ⟨L, R⟩ := hI.law
  have tl := zI_tl hI
  obtain ⟨o1, o2, e1, e2, hr, h1, h2⟩ := yo_log (a := (zw_a xs i 1)) (w := (zw_a xs i 2)) (ln := (f 37)) (n := (f 6)) (t := (f 0)) (f4 := (f 42)) (h := (f 1)) (f6 := (f 43)) (u := (f 28)) (f8 := (f 44)) (cl := (f 2)) (f10 := (f 45)) (sc := (f 3)) (f12 := (f 46)) (sr := (f 4)) (f14 := (f 47)) (ch := (f 48)) (f16 := (f 49)) (f20 := (f 25)) (f21 := (f 26)) (f22 := (f 27)) (f23 := (f 29)) (tS := (f 30)) (f25 := (f 31)) (nc := (f 32)) (f27 := (f 33)) (sP := (f 34)) (nn := (f 38)) (tL := (f 35)) (lP := (f 36)) (f34 := (f 41)) (T := (g 7)) (g1 := (g 59)) (gl := (g 6)) (co := (g 0)) (g4 := (g 29)) (ro := (g 1)) (g6 := (g 30)) (br := (g 2)) (g8 := (g 31)) (wc := (g 3)) (g10 := (g 32)) (wr := (g 4)) (g12 := (g 33)) (g13 := (g 15)) (g14 := (g 16)) (kd := (g 17)) (hf := (g 18)) (to := (g 19)) (K := (g 20)) (g19 := (g 21)) (V := (g 22)) (g21 := (g 23)) (g22 := (g 24)) (g23 := (g 25)) (nr := (g 26)) (g25 := (g 27)) (g26 := (g 28)) (n2 := (f 74)) (mc := (f 83)) (f3 := (f 84)) (f5 := (f 90)) (A := (g 104)) (M := (g 68)) (B := (g 105)) (sp := (g 106)) (m := (g 67)) (aA := (g 99)) (mk := (g 76)) (g := (g 80)) (mh := (g 78)) (mt := (g 79)) (C := (g 75)) (S := (g 81)) (d1 := (g 82)) (d2 := (g 87)) (d3 := (g 88)) (tf := (g 85)) (tt := (g 86)) (d4 := (g 89)) R hI.sky hI.sea hI.tape hI.tale.2.2 hI.so
  rw [← hI.tale.1, ← hI.tale.2.1] at e2
  refine zv_ald (ins := .aload_n 1) (len := 1) hB (by decide +kernel) rfl rfl rfl ?_
  refine zw_arg (j := 1) hB hR i0 i6 hL (by decide +kernel) (by decide) (by decide) rfl ?_
  refine zw_arg (j := 2) hB hR i0 i6 hL (by decide +kernel) (by decide) (by decide) rfl ?_
  refine zv_cv (i := 149) (c := 0) (mm2 := zxm182) (rm2 := (14, 840)) (va := [.inl (zw_a xs i 1), .inl (zw_a xs i 2)]) (S := []) hB (zE_up (by rfl) (by rfl) (by rfl) (by rfl) (by rfl) (zo_X_log e1)) (by decide +kernel) rfl rfl (by decide) (by decide) rfl ?_
  refine zv_pop hB (by decide +kernel) rfl ?_
  refine zv_ald (ins := .aload_n 2) (len := 1) hB (by decide +kernel) rfl rfl rfl ?_
  refine zw_arg (j := 1) hB hR i0 i6 hL (by decide +kernel) (by decide) (by decide) rfl ?_
  refine zw_arg (j := 2) hB hR i0 i6 hL (by decide +kernel) (by decide) (by decide) rfl ?_
  refine zv_cv (i := 152) (c := 1) (mm2 := zxm314) (rm2 := (7, 420)) (va := [.inl (zw_a xs i 1), .inl (zw_a xs i 2)]) (S := []) hB (zE_up (by rfl) (by rfl) (by rfl) (by rfl) (by rfl) (zo_M_log e2)) (by decide +kernel) rfl rfl (by decide) (by decide) rfl ?_
  refine zv_pop hB (by decide +kernel) rfl ?_
  refine zv_goto hB (off := 164) (t := 1593) (by decide +kernel) rfl ?_
  exact zw_tail hB i0 i6 hL (k _ _ ⟨hI.law, zI_sky hI h2.2, zI_sea hI h2.2, zI_size hI h1.1 (h2.1.trans (by rw [hI.tape.1])) (by unfold yw_logS; split; exact .inl rfl; split; exact .inl rfl; split; exact .inl rfl; split; exact .inl rfl; exact .inr rfl), hI.tale, hI.kept, h1.2, hI.le, hI.ln⟩)
end
section
/-! The calls of the law, case by case. -/
theorem zc_over {good : Nat → List zNV → List zNV → List zNV → List (Int → Int) → Prop} {Lx : Nat} {xs : Nat → Int32} {i : Int} {f : Nat → Int} {g : Nat → Int → Int} (hL : Lx ≤ 3072) (hB : zw_B good) (hR : zw_R Lx xs good) (i0 : 0 ≤ i) (i6 : i + 6 ≤ Lx) (hI : zI f g) (k : ∀ f2 g2, zI f2 g2 → good 18 (zw_lc (i + 6)) [] (zE_F f2) (zE_G g2)) : good 1432 (zw_lc i) [] (zE_F f) (zE_G g) := by
  obtain ⟨L, R⟩ := hI.law
  have tl := zI_tl hI
  obtain ⟨v0, e1, e2⟩ := yo_over (x := (zw_a xs i 1)) (y := (zw_a xs i 2)) (t := (f 0)) (ro := (g 1)) (co := (g 0)) (m := (g 67)) hI.sky
  refine zv_ald (ins := .aload_n 1) (len := 1) hB (by decide +kernel) rfl rfl rfl ?_
  refine zw_arg (j := 1) hB hR i0 i6 hL (by decide +kernel) (by decide) (by decide) rfl ?_
  refine zw_arg (j := 2) hB hR i0 i6 hL (by decide +kernel) (by decide) (by decide) rfl ?_
  refine zv_cv (i := 153) (c := 0) (mm2 := zxm187) (rm2 := (1, 60)) (va := [.inl (zw_a xs i 1), .inl (zw_a xs i 2)]) (S := []) hB (zE_up (by rfl) (by rfl) (by rfl) (by rfl) (by rfl) (zo_X_over e1)) (by decide +kernel) rfl rfl (by decide) (by decide) rfl ?_
  refine zv_pop hB (by decide +kernel) rfl ?_
  refine zv_ald (ins := .aload_n 2) (len := 1) hB (by decide +kernel) rfl rfl rfl ?_
  refine zw_arg (j := 1) hB hR i0 i6 hL (by decide +kernel) (by decide) (by decide) rfl ?_
  refine zw_arg (j := 2) hB hR i0 i6 hL (by decide +kernel) (by decide) (by decide) rfl ?_
  refine zv_cv (i := 156) (c := 1) (mm2 := zxm316) (rm2 := (2, 120)) (va := [.inl (zw_a xs i 1), .inl (zw_a xs i 2)]) (S := []) hB (zE_up (by rfl) (by rfl) (by rfl) (by rfl) (by rfl) (zo_M_over e2)) (by decide +kernel) rfl rfl (by decide) (by decide) rfl ?_
  refine zv_pop hB (by decide +kernel) rfl ?_
  refine zv_goto hB (off := 131) (t := 1593) (by decide +kernel) rfl ?_
  exact zw_tail hB i0 i6 hL (k _ _ ⟨hI.law, hI.sky, hI.sea, hI.tape, hI.tale, hI.kept, hI.so, hI.le, hI.ln⟩)
theorem zc_home {good : Nat → List zNV → List zNV → List zNV → List (Int → Int) → Prop} {Lx : Nat} {xs : Nat → Int32} {i : Int} {f : Nat → Int} {g : Nat → Int → Int} (hL : Lx ≤ 3072) (hB : zw_B good) (hR : zw_R Lx xs good) (i0 : 0 ≤ i) (i6 : i + 6 ≤ Lx) (hI : zI f g) (k : ∀ f2 g2, zI f2 g2 → good 18 (zw_lc (i + 6)) [] (zE_F f2) (zE_G g2)) : good 1465 (zw_lc i) [] (zE_F f) (zE_G g) := by
  obtain ⟨L, R⟩ := hI.law
  have tl := zI_tl hI
  obtain ⟨v0, v1, v2, v3, v4, v5, v6, v7, v8, v9, v10, v11, v12, v13, v14, v15, v16, v17, v18, v19, v20, v21, v22, v23, v24, v25, v26, v27, v28, v29, v30, v31, v32, v33, v34, v35, v36, v37, v38, e1, e2, fr⟩ := yo_home (x := (zw_a xs i 1)) (y := (zw_a xs i 2)) (f3 := (f 25)) (f4 := (f 26)) (f5 := (f 27)) (h := (f 1)) (u := (f 28)) (f8 := (f 29)) (t := (f 0)) (sc := (f 3)) (sr := (f 4)) (cl := (f 2)) (tS := (f 30)) (f14 := (f 31)) (nc := (f 32)) (f16 := (f 33)) (sP := (f 34)) (tL := (f 35)) (lP := (f 36)) (f20 := (f 42)) (f21 := (f 43)) (f22 := (f 44)) (f23 := (f 45)) (f24 := (f 46)) (f25 := (f 47)) (ch := (f 48)) (f27 := (f 49)) (f30 := (f 59)) (f31 := (f 60)) (f32 := (f 61)) (f33 := (f 62)) (f34 := (f 63)) (g0 := (g 15)) (g1 := (g 16)) (co := (g 0)) (ro := (g 1)) (br := (g 2)) (kd := (g 17)) (hf := (g 18)) (to := (g 19)) (K := (g 20)) (g9 := (g 21)) (V := (g 22)) (g11 := (g 23)) (g12 := (g 24)) (g13 := (g 29)) (g14 := (g 30)) (g15 := (g 31)) (wc := (g 3)) (g17 := (g 32)) (wr := (g 4)) (g19 := (g 33)) (g20 := (g 56)) (g21 := (g 57)) (g22 := (g 58)) (mc := (f 83)) (f1 := (f 84)) (m := (g 67)) (mk := (g 76)) (h2 := (g 80)) (mh := (g 78)) (mt := (g 79)) (C := (g 75)) (h6 := (g 81)) (h7 := (g 82)) (h8 := (g 103)) (h9 := (g 99)) R hI.sky
  refine zv_ald (ins := .aload_n 1) (len := 1) hB (by decide +kernel) rfl rfl rfl ?_
  refine zw_arg (j := 1) hB hR i0 i6 hL (by decide +kernel) (by decide) (by decide) rfl ?_
  refine zw_arg (j := 2) hB hR i0 i6 hL (by decide +kernel) (by decide) (by decide) rfl ?_
  refine zv_cv (i := 157) (c := 0) (mm2 := zxm188) (rm2 := (6, 360)) (va := [.inl (zw_a xs i 1), .inl (zw_a xs i 2)]) (S := []) hB (zE_up (by rfl) (by rfl) (by rfl) (by rfl) (by rfl) (zo_X_home e1)) (by decide +kernel) rfl rfl (by decide) (by decide) rfl ?_
  refine zv_pop hB (by decide +kernel) rfl ?_
  refine zv_ald (ins := .aload_n 2) (len := 1) hB (by decide +kernel) rfl rfl rfl ?_
  refine zw_arg (j := 1) hB hR i0 i6 hL (by decide +kernel) (by decide) (by decide) rfl ?_
  refine zw_arg (j := 2) hB hR i0 i6 hL (by decide +kernel) (by decide) (by decide) rfl ?_
  refine zv_cv (i := 160) (c := 1) (mm2 := zxm317) (rm2 := (6, 360)) (va := [.inl (zw_a xs i 1), .inl (zw_a xs i 2)]) (S := []) hB (zE_up (by rfl) (by rfl) (by rfl) (by rfl) (by rfl) (zo_M_home e2)) (by decide +kernel) rfl rfl (by decide) (by decide) rfl ?_
  refine zv_pop hB (by decide +kernel) rfl ?_
  refine zv_goto hB (off := 98) (t := 1593) (by decide +kernel) rfl ?_
  exact zw_tail hB i0 i6 hL (k _ _ ⟨hI.law, zI_sky hI fr, zI_sea hI fr, hI.tape, hI.tale, hI.kept, hI.so, hI.le, hI.ln⟩)
theorem zc_seed {good : Nat → List zNV → List zNV → List zNV → List (Int → Int) → Prop} {Lx : Nat} {xs : Nat → Int32} {i : Int} {f : Nat → Int} {g : Nat → Int → Int} (hL : Lx ≤ 3072) (hB : zw_B good) (hR : zw_R Lx xs good) (i0 : 0 ≤ i) (i6 : i + 6 ≤ Lx) (hI : zI f g) (k : ∀ f2 g2, zI f2 g2 → good 18 (zw_lc (i + 6)) [] (zE_F f2) (zE_G g2)) : good 1498 (zw_lc i) [] (zE_F f) (zE_G g) := by
  obtain ⟨L, R⟩ := hI.law
  have tl := zI_tl hI
  obtain ⟨v0, v1, v2, e1, e2, k', fr⟩ := yo_seed (n := (zw_a xs i 1)) (ch := (f 48)) (m := (g 67)) hI.sky
  refine zv_ald (ins := .aload_n 1) (len := 1) hB (by decide +kernel) rfl rfl rfl ?_
  refine zw_arg (j := 1) hB hR i0 i6 hL (by decide +kernel) (by decide) (by decide) rfl ?_
  refine zv_cv (i := 161) (c := 0) (mm2 := zxm190) (rm2 := (1, 60)) (va := [.inl (zw_a xs i 1)]) (S := []) hB (zE_up (by rfl) (by rfl) (by rfl) (by rfl) (by rfl) (zo_X_seed e1)) (by decide +kernel) rfl rfl (by decide) (by decide) rfl ?_
  refine zv_pop hB (by decide +kernel) rfl ?_
  refine zv_ald (ins := .aload_n 2) (len := 1) hB (by decide +kernel) rfl rfl rfl ?_
  refine zw_arg (j := 1) hB hR i0 i6 hL (by decide +kernel) (by decide) (by decide) rfl ?_
  refine zv_cv (i := 164) (c := 1) (mm2 := zxm318) (rm2 := (1, 60)) (va := [.inl (zw_a xs i 1)]) (S := []) hB (zE_up (by rfl) (by rfl) (by rfl) (by rfl) (by rfl) (zo_M_seed e2)) (by decide +kernel) rfl rfl (by decide) (by decide) rfl ?_
  refine zv_pop hB (by decide +kernel) rfl ?_
  refine zv_goto hB (off := 75) (t := 1593) (by decide +kernel) rfl ?_
  exact zw_tail hB i0 i6 hL (k _ _ ⟨hI.law, k', yk_sea_fr hI.sea fun j hj => fr j (by omega), hI.tape, hI.tale, hI.kept, hI.so, hI.le, hI.ln⟩)
theorem zc_keep {good : Nat → List zNV → List zNV → List zNV → List (Int → Int) → Prop} {Lx : Nat} {xs : Nat → Int32} {i : Int} {f : Nat → Int} {g : Nat → Int → Int} (hL : Lx ≤ 3072) (hB : zw_B good) (hR : zw_R Lx xs good) (i0 : 0 ≤ i) (i6 : i + 6 ≤ Lx) (hI : zI f g) (k : ∀ f2 g2, zI f2 g2 → good 18 (zw_lc (i + 6)) [] (zE_F f2) (zE_G g2)) : good 1521 (zw_lc i) [] (zE_F f) (zE_G g) := by
  obtain ⟨L, R⟩ := hI.law
  have tl := zI_tl hI
  obtain ⟨v0, v1, v2, v3, v4, v5, v6, v7, v8, e1, e2, k', z'⟩ := yo_keep (t := (f 0)) (f1 := (f 65)) (h := (f 1)) (f3 := (f 66)) (u := (f 28)) (f5 := (f 67)) (cl := (f 2)) (f7 := (f 68)) (sc := (f 3)) (f9 := (f 69)) (sr := (f 4)) (f11 := (f 70)) (ch := (f 48)) (f13 := (f 71)) (ts := (f 5)) (f15 := (f 72)) (f16 := (f 73)) (co := (g 0)) (g1 := (g 60)) (ro := (g 1)) (g3 := (g 61)) (br := (g 2)) (g5 := (g 62)) (wc := (g 3)) (g7 := (g 63)) (wr := (g 4)) (g9 := (g 64)) (gl := (g 6)) (g11 := (g 65)) (gp := (g 5)) (g13 := (g 66)) (f0 := (f 96)) (m := (g 67)) (mK := (g 107)) hI.sky hI.sea
  refine zv_ald (ins := .aload_n 1) (len := 1) hB (by decide +kernel) rfl rfl rfl ?_
  refine zv_cv (i := 165) (c := 0) (mm2 := zxm191) (rm2 := (2, 120)) (va := []) (S := []) hB (zE_up (by rfl) (by rfl) (by rfl) (by rfl) (by rfl) (zo_X_keep e1)) (by decide +kernel) rfl rfl (by decide) (by decide) rfl ?_
  refine zv_pop hB (by decide +kernel) rfl ?_
  refine zv_ald (ins := .aload_n 2) (len := 1) hB (by decide +kernel) rfl rfl rfl ?_
  refine zv_cv (i := 168) (c := 1) (mm2 := zxm319) (rm2 := (1, 60)) (va := []) (S := []) hB (zE_up (by rfl) (by rfl) (by rfl) (by rfl) (by rfl) (zo_M_keep e2)) (by decide +kernel) rfl rfl (by decide) (by decide) rfl ?_
  refine zv_pop hB (by decide +kernel) rfl ?_
  refine zv_goto hB (off := 62) (t := 1593) (by decide +kernel) rfl ?_
  exact zw_tail hB i0 i6 hL (k _ _ ⟨hI.law, hI.sky, hI.sea, hI.tape, hI.tale, ⟨rfl, fun _ => ⟨k', z'⟩⟩, hI.so, hI.le, hI.ln⟩)
theorem zc_undo {good : Nat → List zNV → List zNV → List zNV → List (Int → Int) → Prop} {Lx : Nat} {xs : Nat → Int32} {i : Int} {f : Nat → Int} {g : Nat → Int → Int} (hL : Lx ≤ 3072) (hB : zw_B good) (hR : zw_R Lx xs good) (i0 : 0 ≤ i) (i6 : i + 6 ≤ Lx) (hI : zI f g) (k : ∀ f2 g2, zI f2 g2 → good 18 (zw_lc (i + 6)) [] (zE_F f2) (zE_G g2)) : good 1534 (zw_lc i) [] (zE_F f) (zE_G g) := by
  obtain ⟨L, R⟩ := hI.law
  have tl := zI_tl hI
  obtain ⟨v0, v1, v2, v3, v4, v5, v6, v7, v8, v9, v10, v11, v12, v13, v14, v15, v16, e1, e2, k', z'⟩ := yo_undo (t := (f 65)) (f2 := (f 0)) (h := (f 66)) (f4 := (f 1)) (u := (f 67)) (f6 := (f 28)) (cl := (f 68)) (f8 := (f 2)) (sc := (f 69)) (f10 := (f 3)) (sr := (f 70)) (f12 := (f 4)) (ch := (f 71)) (f14 := (f 48)) (ts := (f 72)) (f16 := (f 5)) (co := (g 60)) (g1 := (g 0)) (ro := (g 61)) (g3 := (g 1)) (br := (g 62)) (g5 := (g 2)) (wc := (g 63)) (g7 := (g 3)) (wr := (g 64)) (g9 := (g 4)) (gl := (g 65)) (g11 := (g 6)) (gp := (g 66)) (g13 := (g 5)) (mK := (g 107)) (m := (g 67)) (ik := (f 73)) hI.kept.2 hI.sky hI.sea
  rw [← hI.kept.1] at e2
  refine zv_ald (ins := .aload_n 1) (len := 1) hB (by decide +kernel) rfl rfl rfl ?_
  refine zv_cv (i := 169) (c := 0) (mm2 := zxm193) (rm2 := (2, 120)) (va := []) (S := []) hB (zE_up (by rfl) (by rfl) (by rfl) (by rfl) (by rfl) (zo_X_undo e1)) (by decide +kernel) rfl rfl (by decide) (by decide) rfl ?_
  refine zv_pop hB (by decide +kernel) rfl ?_
  refine zv_ald (ins := .aload_n 2) (len := 1) hB (by decide +kernel) rfl rfl rfl ?_
  refine zv_cv (i := 173) (c := 1) (mm2 := zxm320) (rm2 := (1, 60)) (va := []) (S := []) hB (zE_up (by rfl) (by rfl) (by rfl) (by rfl) (by rfl) (zo_M_undo e2)) (by decide +kernel) rfl rfl (by decide) (by decide) rfl ?_
  refine zv_pop hB (by decide +kernel) rfl ?_
  refine zv_goto hB (off := 49) (t := 1593) (by decide +kernel) rfl ?_
  exact zw_tail hB i0 i6 hL (k _ _ ⟨hI.law, k', z', hI.tape, hI.tale, hI.kept, hI.so, hI.le, hI.ln⟩)
theorem zc_check {good : Nat → List zNV → List zNV → List zNV → List (Int → Int) → Prop} {Lx : Nat} {xs : Nat → Int32} {i : Int} {f : Nat → Int} {g : Nat → Int → Int} (hL : Lx ≤ 3072) (hB : zw_B good) (hR : zw_R Lx xs good) (i0 : 0 ≤ i) (i6 : i + 6 ≤ Lx) (hI : zI f g) (k : ∀ f2 g2, zI f2 g2 → good 18 (zw_lc (i + 6)) [] (zE_F f2) (zE_G g2)) : good 1547 (zw_lc i) [] (zE_F f) (zE_G g) := by
  obtain ⟨L, R⟩ := hI.law
  have tl := zI_tl hI
  obtain ⟨v0, v1, v2, e1, e2, p'⟩ := yo_check (x := (zw_a xs i 1)) (n := (f 6)) (ts := (f 5)) (T := (g 7)) (gp := (g 5)) (n2 := (f 74)) (M := (g 68)) (m := (g 67)) hI.sea hI.tape
  refine zv_ald (ins := .aload_n 1) (len := 1) hB (by decide +kernel) rfl rfl rfl ?_
  refine zw_arg (j := 1) hB hR i0 i6 hL (by decide +kernel) (by decide) (by decide) rfl ?_
  refine zv_cv (i := 174) (c := 0) (mm2 := zxm194) (rm2 := (2, 120)) (va := [.inl (zw_a xs i 1)]) (S := []) hB (zE_up (by rfl) (by rfl) (by rfl) (by rfl) (by rfl) (zo_X_check e1)) (by decide +kernel) rfl rfl (by decide) (by decide) rfl ?_
  refine zv_pop hB (by decide +kernel) rfl ?_
  refine zv_ald (ins := .aload_n 2) (len := 1) hB (by decide +kernel) rfl rfl rfl ?_
  refine zw_arg (j := 1) hB hR i0 i6 hL (by decide +kernel) (by decide) (by decide) rfl ?_
  refine zv_cv (i := 177) (c := 1) (mm2 := zxm321) (rm2 := (2, 120)) (va := [.inl (zw_a xs i 1)]) (S := []) hB (zE_up (by rfl) (by rfl) (by rfl) (by rfl) (by rfl) (zo_M_check e2)) (by decide +kernel) rfl rfl (by decide) (by decide) rfl ?_
  refine zv_pop hB (by decide +kernel) rfl ?_
  refine zv_goto hB (off := 26) (t := 1593) (by decide +kernel) rfl ?_
  exact zw_tail hB i0 i6 hL (k _ _ ⟨hI.law, hI.sky, hI.sea, p', hI.tale, hI.kept, hI.so, hI.le, hI.ln⟩)
theorem zc_count {good : Nat → List zNV → List zNV → List zNV → List (Int → Int) → Prop} {Lx : Nat} {xs : Nat → Int32} {i : Int} {f : Nat → Int} {g : Nat → Int → Int} (hL : Lx ≤ 3072) (hB : zw_B good) (hR : zw_R Lx xs good) (i0 : 0 ≤ i) (i6 : i + 6 ≤ Lx) (hI : zI f g) (k : ∀ f2 g2, zI f2 g2 → good 18 (zw_lc (i + 6)) [] (zE_F f2) (zE_G g2)) : good 1570 (zw_lc i) [] (zE_F f) (zE_G g) := by
  obtain ⟨L, R⟩ := hI.law
  have tl := zI_tl hI
  obtain ⟨v0, v1, e1, e2, _⟩ := yo_count (n := (zw_a xs i 1)) (h := (f 1)) (u := (f 28)) (cl := (f 2)) (t := (f 0)) (ts := (f 5)) (ch := (f 48)) (sc := (f 3)) (sr := (f 4)) (gl := (g 6)) (gp := (g 5)) (m := (g 67)) (nc := (f 32)) (tl := (f 37)) (sz := (f 6)) hI.sky hI.sea
  have e2 : zf_M_count (zw_a xs i 1) (f 83) (f 88) (f 74) (g 67) = some v1 := by rw [show f 83 = f 32 from R.1.2.2.2, hI.tale.1, hI.tape.1]; exact e2
  refine zv_ald (ins := .aload_n 1) (len := 1) hB (by decide +kernel) rfl rfl rfl ?_
  refine zw_arg (j := 1) hB hR i0 i6 hL (by decide +kernel) (by decide) (by decide) rfl ?_
  refine zv_cv (i := 178) (c := 0) (mm2 := zxm196) (rm2 := (2, 120)) (va := [.inl (zw_a xs i 1)]) (S := []) hB (zE_up (by rfl) (by rfl) (by rfl) (by rfl) (by rfl) (zo_X_count e1)) (by decide +kernel) rfl rfl (by decide) (by decide) rfl ?_
  refine zv_pop hB (by decide +kernel) rfl ?_
  refine zv_ald (ins := .aload_n 2) (len := 1) hB (by decide +kernel) rfl rfl rfl ?_
  refine zw_arg (j := 1) hB hR i0 i6 hL (by decide +kernel) (by decide) (by decide) rfl ?_
  refine zv_cv (i := 181) (c := 1) (mm2 := zxm323) (rm2 := (2, 120)) (va := [.inl (zw_a xs i 1)]) (S := []) hB (zE_up (by rfl) (by rfl) (by rfl) (by rfl) (by rfl) (zo_M_count e2)) (by decide +kernel) rfl rfl (by decide) (by decide) rfl ?_
  refine zv_pop hB (by decide +kernel) rfl ?_
  refine zv_goto hB (off := 3) (t := 1593) (by decide +kernel) rfl ?_
  exact zw_tail hB i0 i6 hL (k _ _ ⟨hI.law, hI.sky, hI.sea, hI.tape, hI.tale, hI.kept, hI.so, hI.le, hI.ln⟩)
end
section
/-! law, tale: the calls over names. -/
theorem zE_X_law {f : Nat → Int} {g : Nat → Int → Int} {x1 : Int} {o : Int × Int × Int × Int × Int × Int × Int × Int × Int × Int × Int × (Int → Int) × (Int → Int) × (Int → Int) × (Int → Int) × (Int → Int) × (Int → Int) × Nat × Nat} (h : zf_X_law x1 (f 6) (f 9) (f 10) (f 11) (f 13) (f 14) (f 15) (f 16) (f 17) (f 18) (g 7) (g 8) (g 9) (g 10) (g 11) (g 12) (g 13) = some o) : zv_Fn z_TB z_cl z_KX zyE zxm34 (81, 4860) [.inr 0, .inl x1] (zE_F f) (zE_G g) (some o.1) (zE_Fr (zv_rc [0, 11, 13, 14, 12, 15, 16, 17, 18, 19, 20, 21] o.2.2.2.2.2.2.2.2.2.2.2.2.2.2.2.2.2.1) (zv_rc [0, 11, 13, 14, 12, 15, 16, 17, 18, 19, 20, 21] o.2.2.2.2.2.2.2.2.2.2.2.2.2.2.2.2.2.2) 1000 22 24 1000 1000 1000 1000 1000 1000 (zL_u [(6, o.2.1), (9, o.2.2.1), (10, o.2.2.2.1), (11, o.2.2.2.2.1), (13, o.2.2.2.2.2.1), (14, o.2.2.2.2.2.2.1), (15, o.2.2.2.2.2.2.2.1), (16, o.2.2.2.2.2.2.2.2.1), (17, o.2.2.2.2.2.2.2.2.2.1), (18, o.2.2.2.2.2.2.2.2.2.2.1)] f)) (zE_G (zL_w [(8, o.2.2.2.2.2.2.2.2.2.2.2.1), (9, o.2.2.2.2.2.2.2.2.2.2.2.2.1), (10, o.2.2.2.2.2.2.2.2.2.2.2.2.2.1), (11, o.2.2.2.2.2.2.2.2.2.2.2.2.2.2.1), (12, o.2.2.2.2.2.2.2.2.2.2.2.2.2.2.2.1), (13, o.2.2.2.2.2.2.2.2.2.2.2.2.2.2.2.2.1)] g)) := zv_emq (va2 := [.inr 0, .inl x1]) (F := zE_F f) (F' := zE_Fr (zv_rc [0, 11, 13, 14, 12, 15, 16, 17, 18, 19, 20, 21] o.2.2.2.2.2.2.2.2.2.2.2.2.2.2.2.2.2.1) (zv_rc [0, 11, 13, 14, 12, 15, 16, 17, 18, 19, 20, 21] o.2.2.2.2.2.2.2.2.2.2.2.2.2.2.2.2.2.2) 1000 22 24 1000 1000 1000 1000 1000 1000 (zL_u [(6, o.2.1), (9, o.2.2.1), (10, o.2.2.2.1), (11, o.2.2.2.2.1), (13, o.2.2.2.2.2.1), (14, o.2.2.2.2.2.2.1), (15, o.2.2.2.2.2.2.2.1), (16, o.2.2.2.2.2.2.2.2.1), (17, o.2.2.2.2.2.2.2.2.2.1), (18, o.2.2.2.2.2.2.2.2.2.2.1)] f)) (G := zE_G g) (G' := zE_G (zL_w [(8, o.2.2.2.2.2.2.2.2.2.2.2.1), (9, o.2.2.2.2.2.2.2.2.2.2.2.2.1), (10, o.2.2.2.2.2.2.2.2.2.2.2.2.2.1), (11, o.2.2.2.2.2.2.2.2.2.2.2.2.2.2.1), (12, o.2.2.2.2.2.2.2.2.2.2.2.2.2.2.2.1), (13, o.2.2.2.2.2.2.2.2.2.2.2.2.2.2.2.2.1)] g)) (ρ := [0, 11, 13, 14, 12, 15, 16, 17, 18, 19, 20, 21]) (φ := [6, 7, 9, 10, 11, 12, 13, 14, 15, 16, 17, 18, 8]) (ψ := [7, 8, 9, 10, 11, 12, 13]) [none, none, none, none, none, none, some 0, some 1, some 12, some 2, some 3, some 4, some 5, some 6, some 7, some 8, some 9, some 10, some 11, none, none, none, none, none, none, none, none, none, none, none, none, none, none, none, none, none, none, none, none, none, none, none, none, none, none, none, none, none, none, none, none, none, none, none, none, none, none, none, none, none, none, none, none, none, none, none, none, none, none, none, none, none, none, none, none, none, none, none, none, none, none, none, none, none, none, none, none, none, none, none, none, none, none, none, none, none, none, none, none] [none, none, none, none, none, none, none, some 0, some 1, some 2, some 3, some 4, some 5, some 6, none, none, none, none, none, none, none, none, none, none, none, none, none, none, none, none, none, none, none, none, none, none, none, none, none, none, none, none, none, none, none, none, none, none, none, none, none, none, none, none, none, none, none, none, none, none, none, none, none, none, none, none, none, none, none, none, none, none, none, none, none, none, none, none, none, none, none, none, none, none, none, none, none, none, none, none, none, none, none, none, none, none, none, none, none, none, none, none, none, none, none, none, none, none, none, none] zyw_X_law zywE zyeE (by decide +kernel) (zt_X_law h) ⟨⟨_, rfl, fun _ => rfl⟩, ⟨_, rfl, fun _ => rfl⟩, ⟨_, rfl, fun _ => rfl⟩, ⟨_, rfl, fun _ => rfl⟩, ⟨_, rfl, fun _ => rfl⟩, ⟨_, rfl, fun (h : zv_is (.inr 1000)) => (Nat.lt_irrefl 1000 h).elim⟩, ⟨_, rfl, fun _ => rfl⟩, ⟨_, rfl, fun _ => rfl⟩, ⟨_, rfl, fun _ => rfl⟩, ⟨_, rfl, fun _ => rfl⟩, ⟨_, rfl, fun _ => rfl⟩, ⟨_, rfl, fun _ => rfl⟩, ⟨_, rfl, fun _ => rfl⟩, trivial⟩ ⟨rfl, rfl, rfl, rfl, rfl, rfl, rfl, trivial⟩ rfl rfl rfl rfl rfl rfl rfl
theorem zE_X_tale {f : Nat → Int} {g : Nat → Int → Int} {x1 : Int} {o : Int × Int × Int × Int × (Int → Int) × Nat × Nat} (h : zf_X_tale x1 (f 6) (f 21) (f 22) (g 7) (g 14) = some o) : zv_Fn z_TB z_cl z_KX zyE zxm76 (2, 120) [.inr 0, .inl x1] (zE_F f) (zE_G g) (some o.1) (zE_Fr 14 21 1000 (zv_rc [0, 11, 22, 12, 23, 24] o.2.2.2.2.2.1) (zv_rc [0, 11, 22, 12, 23, 24] o.2.2.2.2.2.2) 1000 1000 1000 1000 1000 1000 (zL_u [(6, o.2.1), (21, o.2.2.1), (22, o.2.2.2.1)] f)) (zE_G (zL_w [(14, o.2.2.2.2.1)] g)) := zv_emq (va2 := [.inr 0, .inl x1]) (F := zE_F f) (F' := zE_Fr 14 21 1000 (zv_rc [0, 11, 22, 12, 23, 24] o.2.2.2.2.2.1) (zv_rc [0, 11, 22, 12, 23, 24] o.2.2.2.2.2.2) 1000 1000 1000 1000 1000 1000 (zL_u [(6, o.2.1), (21, o.2.2.1), (22, o.2.2.2.1)] f)) (G := zE_G g) (G' := zE_G (zL_w [(14, o.2.2.2.2.1)] g)) (ρ := [0, 11, 22, 12, 23, 24]) (φ := [6, 19, 21, 22, 20]) (ψ := [7, 14]) [none, none, none, none, none, none, some 0, none, none, none, none, none, none, none, none, none, none, none, none, some 1, some 4, some 2, some 3, none, none, none, none, none, none, none, none, none, none, none, none, none, none, none, none, none, none, none, none, none, none, none, none, none, none, none, none, none, none, none, none, none, none, none, none, none, none, none, none, none, none, none, none, none, none, none, none, none, none, none, none, none, none, none, none, none, none, none, none, none, none, none, none, none, none, none, none, none, none, none, none, none, none, none, none] [none, none, none, none, none, none, none, some 0, none, none, none, none, none, none, some 1, none, none, none, none, none, none, none, none, none, none, none, none, none, none, none, none, none, none, none, none, none, none, none, none, none, none, none, none, none, none, none, none, none, none, none, none, none, none, none, none, none, none, none, none, none, none, none, none, none, none, none, none, none, none, none, none, none, none, none, none, none, none, none, none, none, none, none, none, none, none, none, none, none, none, none, none, none, none, none, none, none, none, none, none, none, none, none, none, none, none, none, none, none, none, none] zyw_X_tale zywE zyeE (by decide +kernel) (zt_X_tale h) ⟨⟨_, rfl, fun _ => rfl⟩, ⟨_, rfl, fun _ => rfl⟩, ⟨_, rfl, fun _ => rfl⟩, ⟨_, rfl, fun _ => rfl⟩, ⟨_, rfl, fun _ => rfl⟩, trivial⟩ ⟨rfl, rfl, trivial⟩ rfl rfl rfl rfl rfl rfl rfl
theorem zE_M_law {r0 r1 r3 r4 : Nat} {f : Nat → Int} {g : Nat → Int → Int} {x1 : Int} {o : Int × Int × Int × Int × Int × Int × Int × Int × Int × Int × Int × (Int → Int) × (Int → Int) × (Int → Int) × (Int → Int) × (Int → Int) × (Int → Int) × (Int → Int) × (Int → Int) × (Int → Int) × (Int → Int) × (Int → Int)} (h : zf_M_law x1 (f 74) (f 75) (f 76) (f 77) (f 78) (f 79) (f 80) (f 81) (f 82) (f 83) (g 68) (g 69) (g 70) (g 71) (g 72) (g 73) (g 74) (g 75) (g 76) (g 77) (g 78) (g 79) = some o) : zv_Fn z_TB z_cl z_KX zyE zxm215 (8, 480) [.inr 1, .inl x1] (zE_Fr r0 r1 1000 r3 r4 1000 1000 1000 1000 1000 1000 f) (zE_G g) (some o.1) (zE_Fr r0 r1 1000 r3 r4 1000 1000 1000 1000 1000 1000 (zL_u [(74, o.2.1), (75, o.2.2.1), (76, o.2.2.2.1), (77, o.2.2.2.2.1), (78, o.2.2.2.2.2.1), (79, o.2.2.2.2.2.2.1), (80, o.2.2.2.2.2.2.2.1), (81, o.2.2.2.2.2.2.2.2.1), (82, o.2.2.2.2.2.2.2.2.2.1), (83, o.2.2.2.2.2.2.2.2.2.2.1)] f)) (zE_G (zL_w [(69, o.2.2.2.2.2.2.2.2.2.2.2.1), (70, o.2.2.2.2.2.2.2.2.2.2.2.2.1), (71, o.2.2.2.2.2.2.2.2.2.2.2.2.2.1), (72, o.2.2.2.2.2.2.2.2.2.2.2.2.2.2.1), (73, o.2.2.2.2.2.2.2.2.2.2.2.2.2.2.2.1), (74, o.2.2.2.2.2.2.2.2.2.2.2.2.2.2.2.2.1), (75, o.2.2.2.2.2.2.2.2.2.2.2.2.2.2.2.2.2.1), (76, o.2.2.2.2.2.2.2.2.2.2.2.2.2.2.2.2.2.2.1), (77, o.2.2.2.2.2.2.2.2.2.2.2.2.2.2.2.2.2.2.2.1), (78, o.2.2.2.2.2.2.2.2.2.2.2.2.2.2.2.2.2.2.2.2.1), (79, o.2.2.2.2.2.2.2.2.2.2.2.2.2.2.2.2.2.2.2.2.2)] g)) := (zv_emq (va2 := [.inr 1, .inl x1]) (F := zE_Fr r0 r1 1000 r3 r4 1000 1000 1000 1000 1000 1000 f) (F' := (zE_Fr r0 r1 1000 r3 r4 1000 1000 1000 1000 1000 1000 (zL_u [(74, o.2.1), (75, o.2.2.1), (76, o.2.2.2.1), (77, o.2.2.2.2.1), (78, o.2.2.2.2.2.1), (79, o.2.2.2.2.2.2.1), (80, o.2.2.2.2.2.2.2.1), (81, o.2.2.2.2.2.2.2.2.1), (82, o.2.2.2.2.2.2.2.2.2.1), (83, o.2.2.2.2.2.2.2.2.2.2.1)] f))) (G := zE_G g) (G' := (zE_G (zL_w [(69, o.2.2.2.2.2.2.2.2.2.2.2.1), (70, o.2.2.2.2.2.2.2.2.2.2.2.2.1), (71, o.2.2.2.2.2.2.2.2.2.2.2.2.2.1), (72, o.2.2.2.2.2.2.2.2.2.2.2.2.2.2.1), (73, o.2.2.2.2.2.2.2.2.2.2.2.2.2.2.2.1), (74, o.2.2.2.2.2.2.2.2.2.2.2.2.2.2.2.2.1), (75, o.2.2.2.2.2.2.2.2.2.2.2.2.2.2.2.2.2.1), (76, o.2.2.2.2.2.2.2.2.2.2.2.2.2.2.2.2.2.2.1), (77, o.2.2.2.2.2.2.2.2.2.2.2.2.2.2.2.2.2.2.2.1), (78, o.2.2.2.2.2.2.2.2.2.2.2.2.2.2.2.2.2.2.2.2.1), (79, o.2.2.2.2.2.2.2.2.2.2.2.2.2.2.2.2.2.2.2.2.2)] g))) (ρ := [1, 87, 88, 89, 90, 91, 92, 93, 94, 95, 96, 97, 98]) (φ := [74, 75, 76, 77, 78, 79, 80, 81, 82, 83]) (ψ := [68, 69, 70, 71, 72, 73, 74, 75, 76, 77, 78, 79]) [none, none, none, none, none, none, none, none, none, none, none, none, none, none, none, none, none, none, none, none, none, none, none, none, none, none, none, none, none, none, none, none, none, none, none, none, none, none, none, none, none, none, none, none, none, none, none, none, none, none, none, none, none, none, none, none, none, none, none, none, none, none, none, none, none, none, none, none, none, none, none, none, none, none, some 0, some 1, some 2, some 3, some 4, some 5, some 6, some 7, some 8, some 9, none, none, none, none, none, none, none, none, none, none, none, none, none, none, none] [none, none, none, none, none, none, none, none, none, none, none, none, none, none, none, none, none, none, none, none, none, none, none, none, none, none, none, none, none, none, none, none, none, none, none, none, none, none, none, none, none, none, none, none, none, none, none, none, none, none, none, none, none, none, none, none, none, none, none, none, none, none, none, none, none, none, none, none, some 0, some 1, some 2, some 3, some 4, some 5, some 6, some 7, some 8, some 9, some 10, some 11, none, none, none, none, none, none, none, none, none, none, none, none, none, none, none, none, none, none, none, none, none, none, none, none, none, none, none, none, none, none] zyw_M_law zywE zyeE (by decide +kernel) (zt_M_law h) ⟨⟨_, rfl, fun _ => rfl⟩, ⟨_, rfl, fun _ => rfl⟩, ⟨_, rfl, fun _ => rfl⟩, ⟨_, rfl, fun _ => rfl⟩, ⟨_, rfl, fun _ => rfl⟩, ⟨_, rfl, fun _ => rfl⟩, ⟨_, rfl, fun _ => rfl⟩, ⟨_, rfl, fun _ => rfl⟩, ⟨_, rfl, fun _ => rfl⟩, ⟨_, rfl, fun _ => rfl⟩, trivial⟩ ⟨rfl, rfl, rfl, rfl, rfl, rfl, rfl, rfl, rfl, rfl, rfl, rfl, trivial⟩ rfl rfl rfl rfl rfl rfl rfl)
theorem zE_M_tale {r0 r1 r3 r4 : Nat} {f : Nat → Int} {g : Nat → Int → Int} {x1 : Int} {o : Int × Int × Int × Int × Int × Int × Int × Int × (Int → Int) × (Int → Int) × (Int → Int) × (Int → Int)} (h : zf_M_tale x1 (f 74) (f 75) (f 76) (f 87) (f 81) (f 88) (f 89) (g 68) (g 83) (g 84) (g 85) (g 86) = some o) : zv_Fn z_TB z_cl z_KX zyE zxm263 (3, 180) [.inr 1, .inl x1] (zE_Fr r0 r1 1000 r3 r4 1000 1000 1000 1000 1000 1000 f) (zE_G g) (some o.1) (zE_Fr r0 r1 1000 r3 r4 1000 1000 1000 1000 1000 1000 (zL_u [(74, o.2.1), (75, o.2.2.1), (76, o.2.2.2.1), (87, o.2.2.2.2.1), (81, o.2.2.2.2.2.1), (88, o.2.2.2.2.2.2.1), (89, o.2.2.2.2.2.2.2.1)] f)) (zE_G (zL_w [(83, o.2.2.2.2.2.2.2.2.1), (84, o.2.2.2.2.2.2.2.2.2.1), (85, o.2.2.2.2.2.2.2.2.2.2.1), (86, o.2.2.2.2.2.2.2.2.2.2.2)] g)) := (zv_emq (va2 := [.inr 1, .inl x1]) (F := zE_Fr r0 r1 1000 r3 r4 1000 1000 1000 1000 1000 1000 f) (F' := (zE_Fr r0 r1 1000 r3 r4 1000 1000 1000 1000 1000 1000 (zL_u [(74, o.2.1), (75, o.2.2.1), (76, o.2.2.2.1), (87, o.2.2.2.2.1), (81, o.2.2.2.2.2.1), (88, o.2.2.2.2.2.2.1), (89, o.2.2.2.2.2.2.2.1)] f))) (G := zE_G g) (G' := (zE_G (zL_w [(83, o.2.2.2.2.2.2.2.2.1), (84, o.2.2.2.2.2.2.2.2.2.1), (85, o.2.2.2.2.2.2.2.2.2.2.1), (86, o.2.2.2.2.2.2.2.2.2.2.2)] g))) (ρ := [1, 87, 102, 103, 104, 105]) (φ := [74, 75, 76, 87, 81, 88, 89]) (ψ := [68, 83, 84, 85, 86]) [none, none, none, none, none, none, none, none, none, none, none, none, none, none, none, none, none, none, none, none, none, none, none, none, none, none, none, none, none, none, none, none, none, none, none, none, none, none, none, none, none, none, none, none, none, none, none, none, none, none, none, none, none, none, none, none, none, none, none, none, none, none, none, none, none, none, none, none, none, none, none, none, none, none, some 0, some 1, some 2, none, none, none, none, some 4, none, none, none, none, none, some 3, some 5, some 6, none, none, none, none, none, none, none, none, none] [none, none, none, none, none, none, none, none, none, none, none, none, none, none, none, none, none, none, none, none, none, none, none, none, none, none, none, none, none, none, none, none, none, none, none, none, none, none, none, none, none, none, none, none, none, none, none, none, none, none, none, none, none, none, none, none, none, none, none, none, none, none, none, none, none, none, none, none, some 0, none, none, none, none, none, none, none, none, none, none, none, none, none, none, some 1, some 2, some 3, some 4, none, none, none, none, none, none, none, none, none, none, none, none, none, none, none, none, none, none, none, none, none, none, none] zyw_M_tale zywE zyeE (by decide +kernel) (zt_M_tale h) ⟨⟨_, rfl, fun _ => rfl⟩, ⟨_, rfl, fun _ => rfl⟩, ⟨_, rfl, fun _ => rfl⟩, ⟨_, rfl, fun _ => rfl⟩, ⟨_, rfl, fun _ => rfl⟩, ⟨_, rfl, fun _ => rfl⟩, ⟨_, rfl, fun _ => rfl⟩, trivial⟩ ⟨rfl, rfl, rfl, rfl, rfl, trivial⟩ rfl rfl rfl rfl rfl rfl rfl)
end
