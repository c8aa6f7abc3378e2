/-! Names given anew: the two laws, the two tales change their parts. -/
def zy_rk (y : zNL) (ρ φ ψ : List Nat) : Bool :=
  (Nat.ble ρ.length 900 && (ρ.all (fun d => Nat.blt d 900) && (Nat.beq ρ.length (n_N y) && (ρ.all (fun d => Nat.blt d (n_N y)) && (List.range (n_N y)).all (fun a => (List.range (n_N y)).all (fun b => Nat.beq a b || !(Nat.beq (zv_rc ρ a) (zv_rc ρ b)))))))) &&
  ((n_O y).all (fun q => (n_O y).any (fun u => Nat.beq u.1 (zv_rc ρ q.1) && Nat.beq u.2 q.2)) &&
  ((n_I y).all (fun q => (n_I y).any (fun u => zv_e4 u (zv_rc ρ q.1, q.2.1, q.2.2.1, zv_rc φ q.2.2.2))) &&
  ((n_R y).all (fun q => (n_R y).any (fun u => zv_e4 u (zv_rc ρ q.1, q.2.1, q.2.2.1, zv_rc ρ q.2.2.2))) &&
  (n_A y).all (fun q => (n_A y).any (fun u => zv_e4 u (zv_rc ρ q.1, q.2.1, q.2.2.1, zv_rc ψ q.2.2.2))))))
theorem zy_rk1 {y : zNL} {ρ φ ψ : List Nat} (h : zy_rk y ρ φ ψ = true) : (ρ.length ≤ 900 ∧ (∀ d ∈ ρ, d < 900) ∧ (∀ a, a < n_N y → zv_rc ρ a < n_N y) ∧ ∀ a b, a < n_N y → b < n_N y → zv_rc ρ a = zv_rc ρ b → a = b) ∧ (∀ q ∈ n_O y, (zv_rc ρ q.1, q.2) ∈ n_O y) ∧ (∀ q ∈ n_I y, (zv_rc ρ q.1, q.2.1, q.2.2.1, zv_rc φ q.2.2.2) ∈ n_I y) ∧ (∀ q ∈ n_R y, (zv_rc ρ q.1, q.2.1, q.2.2.1, zv_rc ρ q.2.2.2) ∈ n_R y) ∧ ∀ q ∈ n_A y, (zv_rc ρ q.1, q.2.1, q.2.2.1, zv_rc ψ q.2.2.2) ∈ n_A y := by
  unfold zy_rk at h
  simp only [Bool.and_eq_true] at h
  obtain ⟨⟨a1, a2, a3, a4, a5⟩, b1, b2, b3, b4⟩ := h
  refine ⟨⟨Nat.le_of_ble_eq_true a1, fun d hd => z_blt (List.all_eq_true.mp a2 d hd), fun a ha => ?_, fun a b ha hb e => ?_⟩, fun q hq => ?_, fun q hq => zv_any4 (List.all_eq_true.mp b2 q hq), fun q hq => zv_any4 (List.all_eq_true.mp b3 q hq), fun q hq => zv_any4 (List.all_eq_true.mp b4 q hq)⟩
  · have hl := z_beq a3
    unfold zv_rc
    rw [zv_l_get, List.getElem?_eq_getElem (by omega)]
    exact z_blt (List.all_eq_true.mp a4 _ (List.getElem_mem _))
  · have h3 := List.all_eq_true.mp (List.all_eq_true.mp a5 a (List.mem_range.mpr ha)) b (List.mem_range.mpr hb)
    rw [Bool.or_eq_true] at h3
    rcases h3 with h3 | h3
    · exact z_beq h3
    · rw [e] at h3
      have : Nat.beq (zv_rc ρ b) (zv_rc ρ b) = true := Nat.beq_refl _
      rw [this] at h3
      cases h3
  · obtain ⟨u, hu, h2⟩ := List.any_eq_true.mp (List.all_eq_true.mp b1 q hq)
    rw [Bool.and_eq_true] at h2
    rw [← z_beq h2.1, ← z_beq h2.2]; exact hu
theorem zy_ren {D : va_G} {DA : Nat → ClassId} {cl : List vw_C} {y : zNL} {A : Nat → Nat} {F F2 : List zNV} {G G2 : List (Int → Int)} {H : Heap} {ρ φ ψ : List Nat} (hk : zy_rk y ρ φ ψ = true) (hF : ∀ q ∈ n_I y, ∃ v, zv_l F2 q.2.2.2 = some v ∧ (zv_is v → zv_l F (zv_rc φ q.2.2.2) = some (zv_rn ρ v))) (hG : ∀ q ∈ n_A y, zv_l G2 q.2.2.2 = zv_l G (zv_rc ψ q.2.2.2)) (h : zv_rep D DA cl y A F G H) : zv_rep D DA cl y (fun c => A (zv_rc ρ c)) F2 G2 H := by
  obtain ⟨⟨a1, a2, -, -⟩, b1, b2, b3, b4⟩ := zy_rk1 hk
  refine ⟨fun q hq => h.1 _ (b1 q hq), fun q hq => ?_, fun q hq => h.2.2.1 _ (b3 q hq), fun q hq => ?_⟩
  · obtain ⟨r, w, f, r1, r2, r3, r4, r5⟩ := h.2.1 _ (b2 q hq)
    obtain ⟨v, v1, v2⟩ := hF q hq
    refine ⟨r, w, v, r1, r2, r3, v1, fun hv => ?_⟩
    have e := v2 hv
    rw [r4] at e
    cases e
    match v, hv, r5 with
    | .inl x, _, r5 => exact r5 trivial
    | .inr c, hv, r5 =>
      have hc : c < 1000 := hv
      refine zv_w_rn a1 a2 (r5 (show zv_rc ρ c < 1000 from ?_))
      unfold zv_rc
      split
      · rename_i d hd
        rw [zv_l_get] at hd
        have := a2 d (List.mem_of_getElem? hd)
        omega
      · exact hc
  · obtain ⟨f, g, g1, g2, g3⟩ := h.2.2.2 _ (b4 q hq)
    exact ⟨f, g, g1, by rw [hG q hq]; exact g2, g3⟩
def zE_s1 : List Nat := [0, 1, 2, 3, 4, 5, 6, 7, 8, 9, 10, 11, 12, 13, 21, 31, 33, 28, 59, 29, 30, 14, 22, 23, 24, 25, 26, 127, 17, 19, 20, 15, 128, 16, 34, 35, 36, 37, 38, 39, 40, 41, 42, 43, 44, 45, 46, 47, 48, 49, 50, 51, 52, 53, 54, 55, 56, 57, 58, 18, 60, 61, 62, 63, 64, 65, 66, 67, 68, 69, 70, 71, 72, 73, 74, 75, 76, 77, 78, 79, 80, 81, 82, 83, 84, 85, 86, 87, 88, 89, 90, 91, 92, 93, 94, 95, 96, 97, 98, 99, 100, 101, 102, 103, 104, 105, 106, 107, 108, 109, 110, 111, 112, 113, 114, 115, 116, 117, 118, 119, 120, 121, 122, 123, 124, 125, 126, 27, 32]
def zE_p1 : List Nat := [0, 1, 2, 3, 4, 5, 6, 7, 8, 9, 10, 11, 12, 98, 32, 30, 35, 34, 36, 19, 20, 21, 22, 23, 24, 25, 26, 27, 28, 29, 15, 31, 14, 97, 17, 16, 18, 37, 38, 39, 40, 41, 42, 43, 44, 45, 46, 47, 48, 49, 50, 51, 52, 53, 54, 55, 56, 57, 58, 59, 60, 61, 62, 63, 64, 65, 66, 67, 68, 69, 70, 71, 72, 73, 74, 75, 76, 77, 78, 79, 80, 81, 82, 83, 84, 85, 86, 87, 88, 89, 90, 91, 92, 93, 94, 95, 96, 33, 13]
def zE_q1 : List Nat := [0, 1, 2, 3, 4, 5, 6, 7, 20, 22, 17, 44, 18, 19, 14, 15, 108, 10, 12, 13, 8, 109, 9, 23, 24, 25, 26, 27, 28, 29, 30, 31, 32, 33, 34, 35, 36, 37, 38, 39, 40, 41, 42, 43, 11, 45, 46, 47, 48, 49, 50, 51, 52, 53, 54, 55, 56, 57, 58, 59, 60, 61, 62, 63, 64, 65, 66, 67, 68, 69, 70, 71, 72, 73, 74, 75, 76, 77, 78, 79, 80, 81, 82, 83, 84, 85, 86, 87, 88, 89, 90, 91, 92, 93, 94, 95, 96, 97, 98, 99, 100, 101, 102, 103, 104, 105, 106, 107, 16, 21]
theorem zE_rk1 : zy_rk zyE zE_s1 zE_p1 zE_q1 = true := by decide +kernel
theorem zE_lt1 : ((n_I zyE).all (fun q => Nat.blt q.2.2.2 99) && (n_A zyE).all (fun q => Nat.blt q.2.2.2 110 && Nat.blt (zv_rc zE_q1 q.2.2.2) 110)) = true := by decide +kernel
theorem zE_fl1 {f : Nat → Int} : ∀ j, j < 99 → ∃ v, zv_l (zE_F (fun j => f (zv_rc zE_p1 j))) j = some v ∧ (zv_is v → zv_l (zE_Fr 21 14 1000 22 24 1000 1000 1000 1000 1000 1000 f) (zv_rc zE_p1 j) = some (zv_rn zE_s1 v)) := by
  intro j hj
  match j, hj with
  | 0, _ => exact ⟨_, rfl, fun _ => rfl⟩
  | 1, _ => exact ⟨_, rfl, fun _ => rfl⟩
  | 2, _ => exact ⟨_, rfl, fun _ => rfl⟩
  | 3, _ => exact ⟨_, rfl, fun _ => rfl⟩
  | 4, _ => exact ⟨_, rfl, fun _ => rfl⟩
  | 5, _ => exact ⟨_, rfl, fun _ => rfl⟩
  | 6, _ => exact ⟨_, rfl, fun _ => rfl⟩
  | 7, _ => exact ⟨_, rfl, fun _ => rfl⟩
  | 8, _ => exact ⟨_, rfl, fun _ => rfl⟩
  | 9, _ => exact ⟨_, rfl, fun _ => rfl⟩
  | 10, _ => exact ⟨_, rfl, fun _ => rfl⟩
  | 11, _ => exact ⟨_, rfl, fun _ => rfl⟩
  | 12, _ => exact ⟨_, rfl, fun (h : zv_is (.inr 1000)) => (Nat.lt_irrefl 1000 h).elim⟩
  | 13, _ => exact ⟨_, rfl, fun _ => rfl⟩
  | 14, _ => exact ⟨_, rfl, fun _ => rfl⟩
  | 15, _ => exact ⟨_, rfl, fun _ => rfl⟩
  | 16, _ => exact ⟨_, rfl, fun _ => rfl⟩
  | 17, _ => exact ⟨_, rfl, fun _ => rfl⟩
  | 18, _ => exact ⟨_, rfl, fun _ => rfl⟩
  | 19, _ => exact ⟨_, rfl, fun _ => rfl⟩
  | 20, _ => exact ⟨_, rfl, fun _ => rfl⟩
  | 21, _ => exact ⟨_, rfl, fun _ => rfl⟩
  | 22, _ => exact ⟨_, rfl, fun _ => rfl⟩
  | 23, _ => exact ⟨_, rfl, fun (h : zv_is (.inr 1000)) => (Nat.lt_irrefl 1000 h).elim⟩
  | 24, _ => exact ⟨_, rfl, fun (h : zv_is (.inr 1000)) => (Nat.lt_irrefl 1000 h).elim⟩
  | 25, _ => exact ⟨_, rfl, fun _ => rfl⟩
  | 26, _ => exact ⟨_, rfl, fun _ => rfl⟩
  | 27, _ => exact ⟨_, rfl, fun _ => rfl⟩
  | 28, _ => exact ⟨_, rfl, fun _ => rfl⟩
  | 29, _ => exact ⟨_, rfl, fun _ => rfl⟩
  | 30, _ => exact ⟨_, rfl, fun _ => rfl⟩
  | 31, _ => exact ⟨_, rfl, fun _ => rfl⟩
  | 32, _ => exact ⟨_, rfl, fun _ => rfl⟩
  | 33, _ => exact ⟨_, rfl, fun _ => rfl⟩
  | 34, _ => exact ⟨_, rfl, fun _ => rfl⟩
  | 35, _ => exact ⟨_, rfl, fun _ => rfl⟩
  | 36, _ => exact ⟨_, rfl, fun _ => rfl⟩
  | 37, _ => exact ⟨_, rfl, fun _ => rfl⟩
  | 38, _ => exact ⟨_, rfl, fun _ => rfl⟩
  | 39, _ => exact ⟨_, rfl, fun (h : zv_is (.inr 1000)) => (Nat.lt_irrefl 1000 h).elim⟩
  | 40, _ => exact ⟨_, rfl, fun (h : zv_is (.inr 1000)) => (Nat.lt_irrefl 1000 h).elim⟩
  | 41, _ => exact ⟨_, rfl, fun _ => rfl⟩
  | 42, _ => exact ⟨_, rfl, fun _ => rfl⟩
  | 43, _ => exact ⟨_, rfl, fun _ => rfl⟩
  | 44, _ => exact ⟨_, rfl, fun _ => rfl⟩
  | 45, _ => exact ⟨_, rfl, fun _ => rfl⟩
  | 46, _ => exact ⟨_, rfl, fun _ => rfl⟩
  | 47, _ => exact ⟨_, rfl, fun _ => rfl⟩
  | 48, _ => exact ⟨_, rfl, fun _ => rfl⟩
  | 49, _ => exact ⟨_, rfl, fun _ => rfl⟩
  | 50, _ => exact ⟨_, rfl, fun _ => rfl⟩
  | 51, _ => exact ⟨_, rfl, fun _ => rfl⟩
  | 52, _ => exact ⟨_, rfl, fun _ => rfl⟩
  | 53, _ => exact ⟨_, rfl, fun _ => rfl⟩
  | 54, _ => exact ⟨_, rfl, fun _ => rfl⟩
  | 55, _ => exact ⟨_, rfl, fun _ => rfl⟩
  | 56, _ => exact ⟨_, rfl, fun _ => rfl⟩
  | 57, _ => exact ⟨_, rfl, fun (h : zv_is (.inr 1000)) => (Nat.lt_irrefl 1000 h).elim⟩
  | 58, _ => exact ⟨_, rfl, fun (h : zv_is (.inr 1000)) => (Nat.lt_irrefl 1000 h).elim⟩
  | 59, _ => exact ⟨_, rfl, fun _ => rfl⟩
  | 60, _ => exact ⟨_, rfl, fun _ => rfl⟩
  | 61, _ => exact ⟨_, rfl, fun _ => rfl⟩
  | 62, _ => exact ⟨_, rfl, fun _ => rfl⟩
  | 63, _ => exact ⟨_, rfl, fun _ => rfl⟩
  | 64, _ => exact ⟨_, rfl, fun _ => rfl⟩
  | 65, _ => exact ⟨_, rfl, fun _ => rfl⟩
  | 66, _ => exact ⟨_, rfl, fun _ => rfl⟩
  | 67, _ => exact ⟨_, rfl, fun _ => rfl⟩
  | 68, _ => exact ⟨_, rfl, fun _ => rfl⟩
  | 69, _ => exact ⟨_, rfl, fun _ => rfl⟩
  | 70, _ => exact ⟨_, rfl, fun _ => rfl⟩
  | 71, _ => exact ⟨_, rfl, fun _ => rfl⟩
  | 72, _ => exact ⟨_, rfl, fun _ => rfl⟩
  | 73, _ => exact ⟨_, rfl, fun _ => rfl⟩
  | 74, _ => exact ⟨_, rfl, fun _ => rfl⟩
  | 75, _ => exact ⟨_, rfl, fun _ => rfl⟩
  | 76, _ => exact ⟨_, rfl, fun _ => rfl⟩
  | 77, _ => exact ⟨_, rfl, fun _ => rfl⟩
  | 78, _ => exact ⟨_, rfl, fun _ => rfl⟩
  | 79, _ => exact ⟨_, rfl, fun _ => rfl⟩
  | 80, _ => exact ⟨_, rfl, fun _ => rfl⟩
  | 81, _ => exact ⟨_, rfl, fun _ => rfl⟩
  | 82, _ => exact ⟨_, rfl, fun _ => rfl⟩
  | 83, _ => exact ⟨_, rfl, fun _ => rfl⟩
  | 84, _ => exact ⟨_, rfl, fun _ => rfl⟩
  | 85, _ => exact ⟨_, rfl, fun _ => rfl⟩
  | 86, _ => exact ⟨_, rfl, fun _ => rfl⟩
  | 87, _ => exact ⟨_, rfl, fun _ => rfl⟩
  | 88, _ => exact ⟨_, rfl, fun _ => rfl⟩
  | 89, _ => exact ⟨_, rfl, fun _ => rfl⟩
  | 90, _ => exact ⟨_, rfl, fun _ => rfl⟩
  | 91, _ => exact ⟨_, rfl, fun _ => rfl⟩
  | 92, _ => exact ⟨_, rfl, fun _ => rfl⟩
  | 93, _ => exact ⟨_, rfl, fun _ => rfl⟩
  | 94, _ => exact ⟨_, rfl, fun _ => rfl⟩
  | 95, _ => exact ⟨_, rfl, fun _ => rfl⟩
  | 96, _ => exact ⟨_, rfl, fun _ => rfl⟩
  | 97, _ => exact ⟨_, rfl, fun _ => rfl⟩
  | 98, _ => exact ⟨_, rfl, fun _ => rfl⟩
  | n + 99, h => omega
theorem zE_sw1 {D : va_G} {DA : Nat → ClassId} {cl : List vw_C} {A : Nat → Nat} {f : Nat → Int} {g : Nat → Int → Int} {H : Heap} (h : zv_rep D DA cl zyE A (zE_Fr 21 14 1000 22 24 1000 1000 1000 1000 1000 1000 f) (zE_G g) H) : zv_rep D DA cl zyE (fun c => A (zv_rc zE_s1 c)) (zE_F (fun j => f (zv_rc zE_p1 j))) (zE_G (fun j => g (zv_rc zE_q1 j))) H := by
  have hl := zE_lt1
  rw [Bool.and_eq_true] at hl
  refine zy_ren zE_rk1 (fun q hq => zE_fl1 _ (z_blt (List.all_eq_true.mp hl.1 q hq))) (fun q hq => ?_) h
  have h2 := List.all_eq_true.mp hl.2 q hq
  rw [Bool.and_eq_true] at h2
  rw [zE_G_l (z_blt h2.1), zE_G_l (z_blt h2.2)]
def zE_s2 : List Nat := [0, 1, 2, 3, 4, 5, 6, 7, 8, 9, 10, 11, 12, 13, 14, 15, 16, 17, 18, 19, 20, 21, 24, 38, 22, 25, 26, 27, 28, 29, 30, 31, 32, 33, 34, 35, 36, 37, 23, 39, 40, 41, 42, 43, 44, 45, 46, 47, 48, 49, 50, 51, 52, 53, 54, 55, 56, 57, 58, 59, 60, 61, 62, 63, 64, 65, 66, 67, 68, 69, 70, 71, 72, 73, 74, 75, 76, 77, 78, 79, 80, 81, 82, 83, 84, 85, 86, 87, 88, 89, 90, 91, 92, 93, 94, 95, 96, 97, 98, 99, 100, 101, 102, 103, 104, 105, 106, 107, 108, 109, 110, 111, 112, 113, 114, 115, 116, 117, 118, 119, 120, 121, 122, 123, 124, 125, 126, 127, 128]
def zE_p2 : List Nat := [0, 1, 2, 3, 4, 5, 6, 7, 8, 9, 10, 11, 12, 13, 14, 15, 16, 17, 18, 19, 20, 37, 38, 23, 24, 25, 26, 27, 28, 29, 30, 31, 32, 33, 34, 35, 36, 21, 22, 39, 40, 41, 42, 43, 44, 45, 46, 47, 48, 49, 50, 51, 52, 53, 54, 55, 56, 57, 58, 59, 60, 61, 62, 63, 64, 65, 66, 67, 68, 69, 70, 71, 72, 73, 74, 75, 76, 77, 78, 79, 80, 81, 82, 83, 84, 85, 86, 87, 88, 89, 90, 91, 92, 93, 94, 95, 96, 97, 98]
def zE_q2 : List Nat := [0, 1, 2, 3, 4, 5, 6, 7, 8, 9, 10, 11, 12, 13, 26, 15, 16, 17, 18, 19, 20, 21, 22, 23, 24, 25, 14, 27, 28, 29, 30, 31, 32, 33, 34, 35, 36, 37, 38, 39, 40, 41, 42, 43, 44, 45, 46, 47, 48, 49, 50, 51, 52, 53, 54, 55, 56, 57, 58, 59, 60, 61, 62, 63, 64, 65, 66, 67, 68, 69, 70, 71, 72, 73, 74, 75, 76, 77, 78, 79, 80, 81, 82, 83, 84, 85, 86, 87, 88, 89, 90, 91, 92, 93, 94, 95, 96, 97, 98, 99, 100, 101, 102, 103, 104, 105, 106, 107, 108, 109]
theorem zE_rk2 : zy_rk zyE zE_s2 zE_p2 zE_q2 = true := by decide +kernel
theorem zE_lt2 : ((n_I zyE).all (fun q => Nat.blt q.2.2.2 99) && (n_A zyE).all (fun q => Nat.blt q.2.2.2 110 && Nat.blt (zv_rc zE_q2 q.2.2.2) 110)) = true := by decide +kernel
theorem zE_fl2 {f : Nat → Int} : ∀ j, j < 99 → ∃ v, zv_l (zE_F (fun j => f (zv_rc zE_p2 j))) j = some v ∧ (zv_is v → zv_l (zE_Fr 14 21 1000 24 22 1000 1000 1000 1000 1000 1000 f) (zv_rc zE_p2 j) = some (zv_rn zE_s2 v)) := by
  intro j hj
  match j, hj with
  | 0, _ => exact ⟨_, rfl, fun _ => rfl⟩
  | 1, _ => exact ⟨_, rfl, fun _ => rfl⟩
  | 2, _ => exact ⟨_, rfl, fun _ => rfl⟩
  | 3, _ => exact ⟨_, rfl, fun _ => rfl⟩
  | 4, _ => exact ⟨_, rfl, fun _ => rfl⟩
  | 5, _ => exact ⟨_, rfl, fun _ => rfl⟩
  | 6, _ => exact ⟨_, rfl, fun _ => rfl⟩
  | 7, _ => exact ⟨_, rfl, fun _ => rfl⟩
  | 8, _ => exact ⟨_, rfl, fun _ => rfl⟩
  | 9, _ => exact ⟨_, rfl, fun _ => rfl⟩
  | 10, _ => exact ⟨_, rfl, fun _ => rfl⟩
  | 11, _ => exact ⟨_, rfl, fun _ => rfl⟩
  | 12, _ => exact ⟨_, rfl, fun (h : zv_is (.inr 1000)) => (Nat.lt_irrefl 1000 h).elim⟩
  | 13, _ => exact ⟨_, rfl, fun _ => rfl⟩
  | 14, _ => exact ⟨_, rfl, fun _ => rfl⟩
  | 15, _ => exact ⟨_, rfl, fun _ => rfl⟩
  | 16, _ => exact ⟨_, rfl, fun _ => rfl⟩
  | 17, _ => exact ⟨_, rfl, fun _ => rfl⟩
  | 18, _ => exact ⟨_, rfl, fun _ => rfl⟩
  | 19, _ => exact ⟨_, rfl, fun _ => rfl⟩
  | 20, _ => exact ⟨_, rfl, fun _ => rfl⟩
  | 21, _ => exact ⟨_, rfl, fun _ => rfl⟩
  | 22, _ => exact ⟨_, rfl, fun _ => rfl⟩
  | 23, _ => exact ⟨_, rfl, fun (h : zv_is (.inr 1000)) => (Nat.lt_irrefl 1000 h).elim⟩
  | 24, _ => exact ⟨_, rfl, fun (h : zv_is (.inr 1000)) => (Nat.lt_irrefl 1000 h).elim⟩
  | 25, _ => exact ⟨_, rfl, fun _ => rfl⟩
  | 26, _ => exact ⟨_, rfl, fun _ => rfl⟩
  | 27, _ => exact ⟨_, rfl, fun _ => rfl⟩
  | 28, _ => exact ⟨_, rfl, fun _ => rfl⟩
  | 29, _ => exact ⟨_, rfl, fun _ => rfl⟩
  | 30, _ => exact ⟨_, rfl, fun _ => rfl⟩
  | 31, _ => exact ⟨_, rfl, fun _ => rfl⟩
  | 32, _ => exact ⟨_, rfl, fun _ => rfl⟩
  | 33, _ => exact ⟨_, rfl, fun _ => rfl⟩
  | 34, _ => exact ⟨_, rfl, fun _ => rfl⟩
  | 35, _ => exact ⟨_, rfl, fun _ => rfl⟩
  | 36, _ => exact ⟨_, rfl, fun _ => rfl⟩
  | 37, _ => exact ⟨_, rfl, fun _ => rfl⟩
  | 38, _ => exact ⟨_, rfl, fun _ => rfl⟩
  | 39, _ => exact ⟨_, rfl, fun (h : zv_is (.inr 1000)) => (Nat.lt_irrefl 1000 h).elim⟩
  | 40, _ => exact ⟨_, rfl, fun (h : zv_is (.inr 1000)) => (Nat.lt_irrefl 1000 h).elim⟩
  | 41, _ => exact ⟨_, rfl, fun _ => rfl⟩
  | 42, _ => exact ⟨_, rfl, fun _ => rfl⟩
  | 43, _ => exact ⟨_, rfl, fun _ => rfl⟩
  | 44, _ => exact ⟨_, rfl, fun _ => rfl⟩
  | 45, _ => exact ⟨_, rfl, fun _ => rfl⟩
  | 46, _ => exact ⟨_, rfl, fun _ => rfl⟩
  | 47, _ => exact ⟨_, rfl, fun _ => rfl⟩
  | 48, _ => exact ⟨_, rfl, fun _ => rfl⟩
  | 49, _ => exact ⟨_, rfl, fun _ => rfl⟩
  | 50, _ => exact ⟨_, rfl, fun _ => rfl⟩
  | 51, _ => exact ⟨_, rfl, fun _ => rfl⟩
  | 52, _ => exact ⟨_, rfl, fun _ => rfl⟩
  | 53, _ => exact ⟨_, rfl, fun _ => rfl⟩
  | 54, _ => exact ⟨_, rfl, fun _ => rfl⟩
  | 55, _ => exact ⟨_, rfl, fun _ => rfl⟩
  | 56, _ => exact ⟨_, rfl, fun _ => rfl⟩
  | 57, _ => exact ⟨_, rfl, fun (h : zv_is (.inr 1000)) => (Nat.lt_irrefl 1000 h).elim⟩
  | 58, _ => exact ⟨_, rfl, fun (h : zv_is (.inr 1000)) => (Nat.lt_irrefl 1000 h).elim⟩
  | 59, _ => exact ⟨_, rfl, fun _ => rfl⟩
  | 60, _ => exact ⟨_, rfl, fun _ => rfl⟩
  | 61, _ => exact ⟨_, rfl, fun _ => rfl⟩
  | 62, _ => exact ⟨_, rfl, fun _ => rfl⟩
  | 63, _ => exact ⟨_, rfl, fun _ => rfl⟩
  | 64, _ => exact ⟨_, rfl, fun _ => rfl⟩
  | 65, _ => exact ⟨_, rfl, fun _ => rfl⟩
  | 66, _ => exact ⟨_, rfl, fun _ => rfl⟩
  | 67, _ => exact ⟨_, rfl, fun _ => rfl⟩
  | 68, _ => exact ⟨_, rfl, fun _ => rfl⟩
  | 69, _ => exact ⟨_, rfl, fun _ => rfl⟩
  | 70, _ => exact ⟨_, rfl, fun _ => rfl⟩
  | 71, _ => exact ⟨_, rfl, fun _ => rfl⟩
  | 72, _ => exact ⟨_, rfl, fun _ => rfl⟩
  | 73, _ => exact ⟨_, rfl, fun _ => rfl⟩
  | 74, _ => exact ⟨_, rfl, fun _ => rfl⟩
  | 75, _ => exact ⟨_, rfl, fun _ => rfl⟩
  | 76, _ => exact ⟨_, rfl, fun _ => rfl⟩
  | 77, _ => exact ⟨_, rfl, fun _ => rfl⟩
  | 78, _ => exact ⟨_, rfl, fun _ => rfl⟩
  | 79, _ => exact ⟨_, rfl, fun _ => rfl⟩
  | 80, _ => exact ⟨_, rfl, fun _ => rfl⟩
  | 81, _ => exact ⟨_, rfl, fun _ => rfl⟩
  | 82, _ => exact ⟨_, rfl, fun _ => rfl⟩
  | 83, _ => exact ⟨_, rfl, fun _ => rfl⟩
  | 84, _ => exact ⟨_, rfl, fun _ => rfl⟩
  | 85, _ => exact ⟨_, rfl, fun _ => rfl⟩
  | 86, _ => exact ⟨_, rfl, fun _ => rfl⟩
  | 87, _ => exact ⟨_, rfl, fun _ => rfl⟩
  | 88, _ => exact ⟨_, rfl, fun _ => rfl⟩
  | 89, _ => exact ⟨_, rfl, fun _ => rfl⟩
  | 90, _ => exact ⟨_, rfl, fun _ => rfl⟩
  | 91, _ => exact ⟨_, rfl, fun _ => rfl⟩
  | 92, _ => exact ⟨_, rfl, fun _ => rfl⟩
  | 93, _ => exact ⟨_, rfl, fun _ => rfl⟩
  | 94, _ => exact ⟨_, rfl, fun _ => rfl⟩
  | 95, _ => exact ⟨_, rfl, fun _ => rfl⟩
  | 96, _ => exact ⟨_, rfl, fun _ => rfl⟩
  | 97, _ => exact ⟨_, rfl, fun _ => rfl⟩
  | 98, _ => exact ⟨_, rfl, fun _ => rfl⟩
  | n + 99, h => omega
theorem zE_sw2 {D : va_G} {DA : Nat → ClassId} {cl : List vw_C} {A : Nat → Nat} {f : Nat → Int} {g : Nat → Int → Int} {H : Heap} (h : zv_rep D DA cl zyE A (zE_Fr 14 21 1000 24 22 1000 1000 1000 1000 1000 1000 f) (zE_G g) H) : zv_rep D DA cl zyE (fun c => A (zv_rc zE_s2 c)) (zE_F (fun j => f (zv_rc zE_p2 j))) (zE_G (fun j => g (zv_rc zE_q2 j))) H := by
  have hl := zE_lt2
  rw [Bool.and_eq_true] at hl
  refine zy_ren zE_rk2 (fun q hq => zE_fl2 _ (z_blt (List.all_eq_true.mp hl.1 q hq))) (fun q hq => ?_) h
  have h2 := List.all_eq_true.mp hl.2 q hq
  rw [Bool.and_eq_true] at h2
  rw [zE_G_l (z_blt h2.1), zE_G_l (z_blt h2.2)]
