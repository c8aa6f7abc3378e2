/-! String constants over named cells: the string is the name 902, its bytes are the name 903. -/
def zs_by (j : Nat) : Int32 := ([104, 117, 105, 109, 114, 99, 107, 110, 115, 101, 120, 121, 100] : List Int32).getD j 0
def zs_K3 (own tx : String) (k n : Nat) (OB : Nat → Nat) (sz : Nat) (U : State) (H : Heap) : Prop := ∃ (f : Nat → Value), vk_R own k tx (OB 2) U ∧ va_O "java/lang/String" (OB 2) (fun q => sz ≤ q) U H ∧ va_OF "java/lang/String" "coder" "B" (.int 0) (OB 2) (fun q => sz ≤ q) U H ∧ va_OF "java/lang/String" "value" "[B" (.ref (OB 3)) (OB 2) (fun q => sz ≤ q) U H ∧ va_T .byte (OB 3) n f (fun q => sz ≤ q) U H ∧ va_Z "java/lang/String" "COMPACT_STRINGS" "Z" (.int 1) (fun q => sz ≤ q) U H ∧ ∀ j, j < n → f j = .int (zs_by j)
theorem zs_K3_p {own tx : String} {k n : Nat} {OB : Nat → Nat} {sz : Nat} : z_KXp sz (zs_K3 own tx k n OB sz) := by
  refine ⟨fun s U H h hW => ?_, fun s H H1 h _ hq => ?_, fun u U H hvm h => ?_⟩
  · obtain ⟨f, k1, k2, k3, k4, k5, k6, k7⟩ := h
    exact ⟨f, vk_R.warm hW k1, va_O.moved hW.alike k2, va_OF.moved hW.alike k3, va_OF.moved hW.alike k4, va_T.moved hW.alike k5, va_Z.moved hW.alike k6, k7⟩
  · obtain ⟨f, k1, k2, k3, k4, k5, k6, k7⟩ := h
    exact ⟨f, k1, k2.kept hq, k3.kept hq, k4.kept hq, k5.kept hq, k6.kept hq, k7⟩
  · obtain ⟨f, k1, k2, k3, k4, k5, k6, k7⟩ := h
    have ha : u.vm.Alike U.vm := by rw [hvm]; exact Vm.Alike.refl _
    exact ⟨f, vk_R.same hvm k1, va_O.moved ha k2, va_OF.moved ha k3, va_OF.moved ha k4, va_T.moved ha k5, va_Z.moved ha k6, k7⟩
def zs_KX (own tx : String) (k n : Nat) (own2 : String) (k2 : Nat) (OB : Nat → Nat) (sz : Nat) (U : State) (H : Heap) : Prop := zs_K own tx k n OB sz U H ∧ zs_K3 own2 tx k2 n OB sz U H
theorem zs_KX_p {own own2 tx : String} {k k2 n : Nat} {OB : Nat → Nat} {sz : Nat} : z_KXp sz (zs_KX own tx k n own2 k2 OB sz) :=
  ⟨fun s U H h hW => ⟨zs_K_p.1 s U H h.1 hW, zs_K3_p.1 s U H h.2 hW⟩, fun s H H1 h h1 hq => ⟨zs_K_p.2.1 s H H1 h.1 h1 hq, zs_K3_p.2.1 s H H1 h.2 h1 hq⟩, fun u U H hvm h => ⟨zs_K_p.2.2 u U H hvm h.1, zs_K3_p.2.2 u U H hvm h.2⟩⟩
