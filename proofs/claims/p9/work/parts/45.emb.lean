/-! A contract over some names is used over more of them. -/
def zv_rc (ρ : List Nat) (c : Nat) : Nat := match zv_l ρ c with
  | some d => d
  | none => c
def zv_rn (ρ : List Nat) (v : zNV) : zNV := match v with
  | .inl x => .inl x
  | .inr c => .inr (zv_rc ρ c)
/-- fields: place by place the same, but those that nothing is known of -/
def zv_mF (ρ : List Nat) (F : List zNV) : List Nat → List zNV → Prop
  | [], [] => True
  | j :: φ, f :: F1 => (∃ g, zv_l F j = some g ∧ (zv_is f → g = zv_rn ρ f)) ∧ zv_mF ρ F φ F1
  | _, _ => False
def zv_mG (G : List (Int → Int)) : List Nat → List (Int → Int) → Prop
  | [], [] => True
  | j :: ψ, g :: G1 => zv_l G j = some g ∧ zv_mG G ψ G1
  | _, _ => False
def zv_pF (ρ : List Nat) : List Nat → List zNV → List zNV → List zNV
  | j :: φ, F, f :: F1 => zv_pF ρ φ (zv_s F j (zv_rn ρ f)) F1
  | _, F, _ => F
def zv_pG : List Nat → List (Int → Int) → List (Int → Int) → List (Int → Int)
  | j :: ψ, G, g :: G1 => zv_pG ψ (zv_s G j g) G1
  | _, G, _ => G
def zv_nd : List Nat → Bool
  | [] => true
  | t :: L => !(L.any (fun u => Nat.beq u t)) && zv_nd L
def zv_e4 (a b : Nat × Nat × Nat × Nat) : Bool := Nat.beq a.1 b.1 && Nat.beq a.2.1 b.2.1 && (Nat.beq a.2.2.1 b.2.2.1 && Nat.beq a.2.2.2 b.2.2.2)
def zv_ek (y1 y2 : zNL) (ρ φ ψ : List Nat) : Bool :=
  (Nat.beq ρ.length (n_N y1) && Nat.ble ρ.length 900 && zv_nd ρ && (zv_nd φ && zv_nd ψ) && ρ.all (fun d => Nat.blt d (n_N y2))) &&
  ((n_O y1).all (fun q => (n_O y2).any (fun u => Nat.beq u.1 (zv_rc ρ q.1) && Nat.beq u.2 q.2)) &&
   (n_I y1).all (fun q => Nat.blt q.2.2.2 φ.length && (n_I y2).any (fun u => zv_e4 u (zv_rc ρ q.1, q.2.1, q.2.2.1, zv_rc φ q.2.2.2))) &&
   (n_R y1).all (fun q => (n_R y2).any (fun u => zv_e4 u (zv_rc ρ q.1, q.2.1, q.2.2.1, zv_rc ρ q.2.2.2))) &&
   (n_A y1).all (fun q => Nat.blt q.2.2.2 ψ.length && (n_A y2).any (fun u => zv_e4 u (zv_rc ρ q.1, q.2.1, q.2.2.1, zv_rc ψ q.2.2.2)))) &&
  ((List.range ρ.length).all (fun c => (n_O y1).any (fun q => Nat.beq q.1 c) || (n_A y1).any (fun q => Nat.beq q.1 c)) &&
   (List.range φ.length).all (fun j => (n_I y1).any (fun q => Nat.beq q.2.2.2 j)) && (List.range ψ.length).all (fun j => (n_A y1).any (fun q => Nat.beq q.2.2.2 j)))
theorem zv_nd_ok : ∀ {L : List Nat} {i j t : Nat}, zv_nd L = true → zv_l L i = some t → zv_l L j = some t → i = j
  | [], i, j, t, _, h, _ => by cases h
  | x :: L, i, j, t, h, h1, h2 => by
    unfold zv_nd at h
    rw [Bool.and_eq_true] at h
    have hx : ∀ (k : Nat), zv_l L k = some x → False := by
      intro k hk
      have h3 : L.any (fun u => Nat.beq u x) = false := by simpa using h.1
      rw [zv_l_get] at hk
      exact List.any_eq_false.mp h3 x (List.mem_of_getElem? hk) (Nat.beq_refl _)
    match i, j, h1, h2 with
    | 0, 0, _, _ => rfl
    | 0, j + 1, h1, h2 =>
      have e : x = t := Option.some.inj h1
      subst e
      exact absurd h2 (hx j)
    | i + 1, 0, h1, h2 =>
      have e : x = t := Option.some.inj h2
      subst e
      exact absurd h1 (hx i)
    | i + 1, j + 1, h1, h2 => rw [zv_nd_ok (L := L) (i := i) (j := j) h.2 h1 h2]
theorem zv_l_lt {α : Type} {L : List α} {i : Nat} (h : i < L.length) : ∃ v, zv_l L i = some v := by
  rw [zv_l_get]
  exact ⟨_, List.getElem?_eq_getElem h⟩
theorem zv_l_len {α : Type} {L : List α} {i : Nat} {v : α} (h : zv_l L i = some v) : i < L.length := by
  rw [zv_l_get] at h
  exact (List.getElem?_eq_some_iff.mp h).1
theorem zv_rc_of {ρ : List Nat} {c d : Nat} (h : zv_l ρ c = some d) : zv_rc ρ c = d := by unfold zv_rc; rw [h]
theorem zv_e4_ok {a b : Nat × Nat × Nat × Nat} (h : zv_e4 a b = true) : a = b := by
  unfold zv_e4 at h
  simp only [Bool.and_eq_true] at h
  obtain ⟨a1, a2, a3, a4⟩ := a
  obtain ⟨b1, b2, b3, b4⟩ := b
  have e1 : a1 = b1 := z_beq h.1.1
  have e2 : a2 = b2 := z_beq h.1.2
  have e3 : a3 = b3 := z_beq h.2.1
  have e4 : a4 = b4 := z_beq h.2.2
  rw [e1, e2, e3, e4]
theorem zv_mF_at {ρ : List Nat} {F : List zNV} : ∀ {φ : List Nat} {F1 : List zNV}, zv_mF ρ F φ F1 → ∀ {j k : Nat}, zv_l φ j = some k → ∃ f g, zv_l F1 j = some f ∧ zv_l F k = some g ∧ (zv_is f → g = zv_rn ρ f)
  | [], _, _, j, k, h => by cases h
  | _ :: _, [], h, _, _, _ => absurd h (fun h => h)
  | i :: φ, f :: F1, h, 0, k, hk => by
    have e : i = k := Option.some.inj hk
    subst e
    obtain ⟨g, g1, g2⟩ := h.1
    exact ⟨f, g, rfl, g1, g2⟩
  | i :: φ, f :: F1, h, j + 1, k, hk => zv_mF_at (φ := φ) (F1 := F1) h.2 (j := j) hk
theorem zv_mG_at {G : List (Int → Int)} : ∀ {ψ : List Nat} {G1 : List (Int → Int)}, zv_mG G ψ G1 → ∀ {j k : Nat}, zv_l ψ j = some k → ∃ g, zv_l G1 j = some g ∧ zv_l G k = some g
  | [], _, _, j, k, h => by cases h
  | _ :: _, [], h, _, _, _ => absurd h (fun h => h)
  | i :: ψ, g :: G1, h, 0, k, hk => by
    have e : i = k := Option.some.inj hk
    subst e
    exact ⟨g, rfl, h.1⟩
  | i :: ψ, g :: G1, h, j + 1, k, hk => zv_mG_at (ψ := ψ) (G1 := G1) h.2 (j := j) hk
theorem zv_pF_ne {ρ : List Nat} : ∀ {φ : List Nat} {F F1 : List zNV} {k : Nat}, (∀ j, zv_l φ j ≠ some k) → zv_l (zv_pF ρ φ F F1) k = zv_l F k
  | [], F, F1, k, _ => rfl
  | i :: φ, F, [], k, _ => rfl
  | i :: φ, F, f :: F1, k, h => by
    show zv_l (zv_pF ρ φ (zv_s F i (zv_rn ρ f)) F1) k = _
    rw [zv_pF_ne (fun j => h (j + 1))]
    exact zv_ls_ne (fun e => h 0 (by rw [← e]; rfl))
theorem zv_pF_at {ρ : List Nat} : ∀ {φ : List Nat} {F F1 : List zNV} {j k : Nat} {f : zNV}, zv_nd φ = true → zv_l φ j = some k → zv_l F1 j = some f → (∃ g, zv_l F k = some g) → zv_l (zv_pF ρ φ F F1) k = some (zv_rn ρ f)
  | [], F, F1, j, k, f, _, h, _, _ => by cases h
  | i :: φ, F, [], j, k, f, _, _, h, _ => by cases h
  | i :: φ, F, f0 :: F1, 0, k, f, hn, hk, hf, ⟨g, hg⟩ => by
    have e : i = k := Option.some.inj hk
    have e2 : f0 = f := Option.some.inj hf
    subst e; subst e2
    show zv_l (zv_pF ρ φ (zv_s F i (zv_rn ρ f0)) F1) i = _
    rw [zv_pF_ne (fun j h => by have := zv_nd_ok (L := i :: φ) (i := 0) (j := j + 1) hn rfl h; omega)]
    exact zv_ls_eq hg
  | i :: φ, F, f0 :: F1, j + 1, k, f, hn, hk, hf, ⟨g, hg⟩ => by
    have hne : i ≠ k := fun e => by have := zv_nd_ok (L := i :: φ) (i := 0) (j := j + 1) hn (by rw [e]; rfl) hk; omega
    have hn2 : zv_nd φ = true := by unfold zv_nd at hn; rw [Bool.and_eq_true] at hn; exact hn.2
    exact zv_pF_at (φ := φ) (j := j) hn2 hk hf ⟨g, by rw [zv_ls_ne hne]; exact hg⟩
theorem zv_pG_ne : ∀ {ψ : List Nat} {G G1 : List (Int → Int)} {k : Nat}, (∀ j, zv_l ψ j ≠ some k) → zv_l (zv_pG ψ G G1) k = zv_l G k
  | [], G, G1, k, _ => rfl
  | i :: ψ, G, [], k, _ => rfl
  | i :: ψ, G, g :: G1, k, h => by
    show zv_l (zv_pG ψ (zv_s G i g) G1) k = _
    rw [zv_pG_ne (fun j => h (j + 1))]
    exact zv_ls_ne (fun e => h 0 (by rw [← e]; rfl))
theorem zv_pG_at : ∀ {ψ : List Nat} {G G1 : List (Int → Int)} {j k : Nat} {g : Int → Int}, zv_nd ψ = true → zv_l ψ j = some k → zv_l G1 j = some g → (∃ g, zv_l G k = some g) → zv_l (zv_pG ψ G G1) k = some g
  | [], G, G1, j, k, f, _, h, _, _ => by cases h
  | i :: ψ, G, [], j, k, f, _, _, h, _ => by cases h
  | i :: ψ, G, f0 :: G1, 0, k, f, hn, hk, hf, ⟨g, hg⟩ => by
    have e : i = k := Option.some.inj hk
    have e2 : f0 = f := Option.some.inj hf
    subst e; subst e2
    show zv_l (zv_pG ψ (zv_s G i f0) G1) i = _
    rw [zv_pG_ne (fun j h => by have := zv_nd_ok (L := i :: ψ) (i := 0) (j := j + 1) hn rfl h; omega)]
    exact zv_ls_eq hg
  | i :: ψ, G, f0 :: G1, j + 1, k, f, hn, hk, hf, ⟨g, hg⟩ => by
    have hne : i ≠ k := fun e => by have := zv_nd_ok (L := i :: ψ) (i := 0) (j := j + 1) hn (by rw [e]; rfl) hk; omega
    have hn2 : zv_nd ψ = true := by unfold zv_nd at hn; rw [Bool.and_eq_true] at hn; exact hn.2
    exact zv_pG_at (ψ := ψ) (j := j) hn2 hk hf ⟨g, by rw [zv_ls_ne hne]; exact hg⟩
