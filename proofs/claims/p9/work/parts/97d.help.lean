/-! Small steps of the law's cases. -/
section ZWH
variable {f : Nat → Int} {g : Nat → Int → Int}
theorem zI_tl (h : zI f g) : yk_tl (f 88) (f 89) (g 26) (g 85) (g 86) := by
  obtain ⟨h1, h2, h3⟩ := h.tale
  rw [h1, h2]; exact h3
theorem zI_sky (h : zI f g) {m2 : Int → Int} (e : ∀ j, 0 ≤ j → j < 422 → m2 j = g 67 j) : yk_sky (f 0) (f 1) (f 28) (f 2) (f 3) (f 4) (f 48) (g 0) (g 1) (g 2) (g 3) (g 4) m2 :=
  yk_sky_cg h.sky (fun _ _ _ => rfl) (fun _ _ _ => rfl) (fun _ _ _ => rfl) (fun _ _ _ => rfl) (fun _ _ _ => rfl) e
theorem zI_sea (h : zI f g) {m2 : Int → Int} (e : ∀ j, 0 ≤ j → j < 422 → m2 j = g 67 j) : yk_sea (f 5) (g 5) (g 6) m2 :=
  yk_sea_cg h.sea (fun _ _ _ => rfl) (fun _ _ _ => rfl) e
theorem zI_size (h : zI f g) {a b c : Int} (e1 : a = c) (e2 : b = (c : Int)) (hc : c = f 6 ∨ c = 0) : yk_tape a b (g 7) (g 68) := by
  obtain ⟨h1, h2, h3, h4⟩ := h.tape
  exact ⟨by omega, by omega, by omega, h4⟩
end ZWH
section ZWB
variable {good : Nat → List zNV → List zNV → List zNV → List (Int → Int) → Prop} {L S F : List zNV} {G : List (Int → Int)} {a : Int}
theorem zw_bool (hB : zw_B good) {pc : Nat} (h1 : decode code pc = .ok (.ifCond .eq 7, 3)) (h2 : decode code (pc + 3) = .ok (.iconst 1, 1)) (h3 : decode code (pc + 4) = .ok (.goto 4, 3)) (h4 : decode code (pc + 7) = .ok (.iconst 0, 1)) (t1 : z_to pc 7 = some (pc + 7)) (t2 : z_to (pc + 4) 4 = some (pc + 8)) (k : good (pc + 8) L (.inl (if a = 0 then 0 else 1) :: S) F G) : good pc L (.inl a :: S) F G := by
  refine zv_zeq hB h1 t1 (fun e => ?_) fun e => ?_
  · refine zv_con (ins := .iconst 0) (len := 1) hB h4 rfl ?_
    rw [if_pos e] at k
    exact k
  · refine zv_con (ins := .iconst 1) (len := 1) hB h2 rfl ?_
    refine zv_goto hB h3 t2 ?_
    rw [if_neg e] at k
    exact k
end ZWB
