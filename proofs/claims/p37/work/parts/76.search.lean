/-! Searches of the reference: what hangs together, the least set, ways. -/
theorem zq_or {u v : Int32} {a b : Int} (hu : u.toInt = a) (hv : v.toInt = b) (h1 : 0 ≤ a) (h2 : 0 ≤ b) (h3 : a < 16777216) (h4 : b < 16777216) : a ≤ (u ||| v).toInt ∧ (u ||| v).toInt < 16777216 := by
  have k := z_or_ok (a := (a, 16777215)) (b := (0, 16777215)) (x := u) (y := v) ⟨by rw [hu]; exact Int.le_refl _, by rw [hu]; show a ≤ 16777215; omega⟩ ⟨by rw [hv]; exact h2, by rw [hv]; show b ≤ 16777215; omega⟩
  unfold z_or at k
  rw [if_pos ⟨h1, Int.le_refl _, by show (16777215 : Int) < 2147483648; omega, by show (16777215 : Int) < 2147483648; omega⟩] at k
  have k1 : z_max a 0 ≤ (u ||| v).toInt := k.1
  have k2 : (u ||| v).toInt ≤ ((z_up (z_max (16777215 : Int) 16777215).toNat : Nat) : Int) - 1 := k.2
  have e : ((z_up (z_max (16777215 : Int) 16777215).toNat : Nat) : Int) - 1 = 16777215 := by decide +kernel
  rw [e] at k2
  have l : a ≤ z_max a 0 := by unfold z_max; split <;> omega
  omega
theorem zq_shl {u v : Int32} {i : Int} (hu : u.toInt = 1) (hv : v.toInt = i) (h1 : 0 ≤ i) (h2 : i < 24) : 0 ≤ (u <<< (v &&& 31)).toInt ∧ (u <<< (v &&& 31)).toInt < 16777216 := by
  have k := z_shl_ok (a := (1, 1)) (b := (0, 23)) (x := u) (y := v) ⟨by rw [hu]; decide, by rw [hu]; decide⟩ ⟨by rw [hv]; exact h1, by rw [hv]; show i ≤ 23; omega⟩
  have e : z_shl (1, 1) (0, 23) = (1, 8388608) := by decide +kernel
  rw [e] at k
  have k1 : 1 ≤ (u <<< (v &&& 31)).toInt := k.1
  have k2 : (u <<< (v &&& 31)).toInt ≤ 8388608 := k.2
  omega
abbrev zyFi : zNL := (2, [(0, 12)], [], [(0, 12, 28, 1)], [(1, 0, 24, 0)])
section ZSEARCH
variable {i : Int} {lo : Int → Int} {Gr : List (Int → Int)}
theorem zd204_0 : decode zxm204.2.1 0 = .ok (.iload_n 0, 1) := by decide +kernel
theorem zd204_1 : decode zxm204.2.1 1 = .ok (.iload_n 1, 1) := by decide +kernel
theorem zd204_2 : decode zxm204.2.1 2 = .ok (.ishr, 1) := by decide +kernel
theorem zd204_3 : decode zxm204.2.1 3 = .ok (.iconst 1, 1) := by decide +kernel
theorem zd204_4 : decode zxm204.2.1 4 = .ok (.iand, 1) := by decide +kernel
theorem zd204_5 : decode zxm204.2.1 5 = .ok (.iconst 1, 1) := by decide +kernel
theorem zd204_6 : decode zxm204.2.1 6 = .ok (.if_icmp .ne 7, 3) := by decide +kernel
theorem zd204_9 : decode zxm204.2.1 9 = .ok (.iconst 1, 1) := by decide +kernel
theorem zd204_10 : decode zxm204.2.1 10 = .ok (.goto 4, 3) := by decide +kernel
theorem zd204_13 : decode zxm204.2.1 13 = .ok (.iconst 0, 1) := by decide +kernel
theorem zd204_14 : decode zxm204.2.1 14 = .ok (.ireturn, 1) := by decide +kernel
theorem zh204f {a b : Int} : zn_OK z_TB z_cl z_KX zyFi zxm204 (0, 0) (fun va F G => va = [.inl a, .inl b]) (fun va F G r F' G' => F' = F ∧ G' = G ∧ (r = some 0 ∨ r = some 1)) := zn_meth (K := zkM) (FT := z_FT) (MT := z_MT) (n := 2) zxp204 (z_ks13 _ (fun _ h => List.mem_cons_of_mem _ h) _ _ _ _ (fun j r h _ => by cases h)) (fun _ _ => zs_KX_p) (by decide +kernel) (fun va F G h => by obtain ⟨rfl, _⟩ := h; rfl) rfl fun good va F G hB hret hvret hP => by
  subst hP
  refine zn_ild hB zd204_0 rfl rfl ?_
  refine zn_ild hB zd204_1 rfl rfl ?_
  refine zn_any hB zd204_2 rfl (fun v2 q2 r2 => ?_)
  refine zn_con hB zd204_3 rfl ?_
  refine zn_and hB zd204_4 (by omega) (fun v4 q4 r4 => ?_)
  refine zn_con hB zd204_5 rfl ?_
  refine zn_cne hB zd204_6 rfl (fun h6 => ?_) (fun h6 => ?_)
  · refine zn_con hB zd204_13 rfl ?_
    refine hret _ _ _ _ _ zd204_14 (by constructor <;> decide) ⟨rfl, rfl, ?_⟩
    first | exact Or.inl rfl | exact Or.inr rfl
  · refine zn_con hB zd204_9 rfl ?_
    refine zn_goto hB zd204_10 rfl ?_
    refine hret _ _ _ _ _ zd204_14 (by constructor <;> decide) ⟨rfl, rfl, ?_⟩
    first | exact Or.inl rfl | exact Or.inr rfl
theorem zd256_0 : decode zxm256.2.1 0 = .ok (.iconst 1, 1) := by decide +kernel
theorem zd256_1 : decode zxm256.2.1 1 = .ok (.iload_n 1, 1) := by decide +kernel
theorem zd256_2 : decode zxm256.2.1 2 = .ok (.ishl, 1) := by decide +kernel
theorem zd256_3 : decode zxm256.2.1 3 = .ok (.istore_n 2, 1) := by decide +kernel
theorem zd256_4 : decode zxm256.2.1 4 = .ok (.iconst 0, 1) := by decide +kernel
theorem zd256_5 : decode zxm256.2.1 5 = .ok (.istore_n 3, 1) := by decide +kernel
theorem zd256_6 : decode zxm256.2.1 6 = .ok (.iload_n 3, 1) := by decide +kernel
theorem zd256_7 : decode zxm256.2.1 7 = .ok (.iload_n 2, 1) := by decide +kernel
theorem zd256_8 : decode zxm256.2.1 8 = .ok (.if_icmp .eq 43, 3) := by decide +kernel
theorem zd256_11 : decode zxm256.2.1 11 = .ok (.iload_n 2, 1) := by decide +kernel
theorem zd256_12 : decode zxm256.2.1 12 = .ok (.istore_n 3, 1) := by decide +kernel
theorem zd256_13 : decode zxm256.2.1 13 = .ok (.iconst 0, 1) := by decide +kernel
theorem zd256_14 : decode zxm256.2.1 14 = .ok (.istore 4, 2) := by decide +kernel
theorem zd256_16 : decode zxm256.2.1 16 = .ok (.iload 4, 2) := by decide +kernel
theorem zd256_18 : decode zxm256.2.1 18 = .ok (.bipush 24, 2) := by decide +kernel
theorem zd256_20 : decode zxm256.2.1 20 = .ok (.if_icmp .ge 28, 3) := by decide +kernel
theorem zd256_23 : decode zxm256.2.1 23 = .ok (.iload_n 3, 1) := by decide +kernel
theorem zd256_24 : decode zxm256.2.1 24 = .ok (.iload 4, 2) := by decide +kernel
theorem zd256_26 : decode zxm256.2.1 26 = .ok (.invokestatic 138, 3) := by decide +kernel
theorem zd256_29 : decode zxm256.2.1 29 = .ok (.ifCond .eq 13, 3) := by decide +kernel
theorem zd256_32 : decode zxm256.2.1 32 = .ok (.iload_n 2, 1) := by decide +kernel
theorem zd256_33 : decode zxm256.2.1 33 = .ok (.aload_n 0, 1) := by decide +kernel
theorem zd256_34 : decode zxm256.2.1 34 = .ok (.getfield 62, 3) := by decide +kernel
theorem zd256_37 : decode zxm256.2.1 37 = .ok (.iload 4, 2) := by decide +kernel
theorem zd256_39 : decode zxm256.2.1 39 = .ok (.iaload, 1) := by decide +kernel
theorem zd256_40 : decode zxm256.2.1 40 = .ok (.ior, 1) := by decide +kernel
theorem zd256_41 : decode zxm256.2.1 41 = .ok (.istore_n 2, 1) := by decide +kernel
theorem zd256_42 : decode zxm256.2.1 42 = .ok (.iinc 4 1, 3) := by decide +kernel
theorem zd256_45 : decode zxm256.2.1 45 = .ok (.goto (-29), 3) := by decide +kernel
theorem zd256_48 : decode zxm256.2.1 48 = .ok (.goto (-42), 3) := by decide +kernel
theorem zd256_51 : decode zxm256.2.1 51 = .ok (.iload_n 2, 1) := by decide +kernel
theorem zd256_52 : decode zxm256.2.1 52 = .ok (.ireturn, 1) := by decide +kernel
theorem zh256  : zn_OK z_TB z_cl z_KX zyFi zxm256 (1, 60) (fun va F G => va = [.inr 0, .inl i] ∧ G = lo :: Gr ∧ 0 ≤ i ∧ i < 24 ∧ ∀ k, 0 ≤ k → k < 24 → 0 ≤ lo k ∧ lo k < 16777216) (fun va F G r F' G' => F' = F ∧ G' = G ∧ ∃ v, r = some v ∧ 0 ≤ v ∧ v < 16777216) := zn_meth (K := zkM) (FT := z_FT) (MT := z_MT) (n := 2) zxp256 (z_ks13 _ (fun _ h => List.mem_cons_of_mem _ h) _ _ _ _ (fun j r h _ => by cases h)) (fun _ _ => zs_KX_p) (by decide +kernel) (fun va F G h => by obtain ⟨rfl, _⟩ := h; rfl) rfl fun good va F G hB hret hvret hP => by
  obtain ⟨rfl, rfl, h0, h1, hl⟩ := hP
  have inner : ∀ (m : Nat) (set more k : Int), 24 - k < m → 0 ≤ k → k ≤ 24 → 0 ≤ set → set < 16777216 → (∀ set', set ≤ set' → set' < 16777216 → good 6 [.inr 0, .inl i, .inl set', .inl more, .inl 24] [] F (lo :: Gr)) → good 16 [.inr 0, .inl i, .inl set, .inl more, .inl k] [] F (lo :: Gr) := by
    intro m
    induction m with
    | zero =>
      intro set more k c1 c2 c3 c4 c5 fin
      exfalso; omega
    | succ m ih =>
      intro set more k c1 c2 c3 c4 c5 fin
      refine zn_ild hB zd256_16 rfl rfl ?_
      refine zn_con hB zd256_18 rfl ?_
      refine zn_cge hB zd256_20 rfl (fun h20 => ?_) (fun h20 => ?_)
      · refine zn_goto hB zd256_48 rfl ?_
        have e9 : k = 24 := by omega
        subst e9
        exact fin _ (Int.le_refl _) c5
      · refine zn_ild hB zd256_23 rfl rfl ?_
        refine zn_ild hB zd256_24 rfl rfl ?_
        refine zn_it2 hB zh204f zd256_26 zxt204 rfl rfl (fun r26 F26 G26 hq26 => ?_)
        obtain ⟨rfl, rfl, hx26⟩ := hq26
        rcases hx26 with rfl | rfl
        · refine zn_zeq hB zd256_29 rfl (fun h29 => ?_) (fun h29 => ?_)
          · refine zn_iinc hB zd256_42 rfl rfl (by omega) (by omega) ?_
            refine zn_goto hB zd256_45 rfl ?_
            first | exact ih _ _ _ (by omega) (by omega) (by omega) (by omega) ho.2 (fun set' g1 g2 => fin set' (by omega) g2) | exact ih _ _ _ (by omega) (by omega) (by omega) c4 c5 fin
          · exfalso; omega
        · refine zn_zeq hB zd256_29 rfl (fun h29 => ?_) (fun h29 => ?_)
          · exfalso; omega
          · have l1 := hl k (by omega) (by omega)
            refine zn_ild hB zd256_32 rfl rfl ?_
            refine zn_ald hB zd256_33 rfl rfl rfl ?_
            refine zn_getr hB zd256_34 rfl ?_
            refine zn_ild hB zd256_37 rfl rfl ?_
            refine zn_iald hB zd256_39 rfl rfl (by omega) (by omega) (fun q39 r39 => ?_)
            refine zn_bin hB zd256_40 rfl (fun u40 v40 q40 r40 => ?_)
            have ho := zq_or q40 r40 c4 l1.1 c5 l1.2
            refine zn_ist hB zd256_41 rfl rfl rfl ?_
            refine zn_iinc hB zd256_42 rfl rfl (by omega) (by omega) ?_
            refine zn_goto hB zd256_45 rfl ?_
            first | exact ih _ _ _ (by omega) (by omega) (by omega) (by omega) ho.2 (fun set' g1 g2 => fin set' (by omega) g2) | exact ih _ _ _ (by omega) (by omega) (by omega) c4 c5 fin
  have outer : ∀ (m : Nat) (set more : Int) (x : zNV), 16777216 - more < m → more ≤ set → 0 ≤ set → set < 16777216 → good 6 [.inr 0, .inl i, .inl set, .inl more, x] [] F (lo :: Gr) := by
    intro m
    induction m with
    | zero =>
      intro set more x c1 c2 c3 c4
      exfalso; omega
    | succ m ih =>
      intro set more x c1 c2 c3 c4
      refine zn_ild hB zd256_6 rfl rfl ?_
      refine zn_ild hB zd256_7 rfl rfl ?_
      refine zn_ceq hB zd256_8 rfl (fun h8 => ?_) (fun h8 => ?_)
      · refine zn_ild hB zd256_51 rfl rfl ?_
        exact hret _ _ _ _ _ zd256_52 trivial ⟨rfl, rfl, _, rfl, c3, c4⟩
      · refine zn_ild hB zd256_11 rfl rfl ?_
        refine zn_ist hB zd256_12 rfl rfl rfl ?_
        refine zn_con hB zd256_13 rfl ?_
        refine zn_ist hB zd256_14 rfl rfl rfl ?_
        exact inner 25 _ _ 0 (by omega) (by omega) (by omega) c3 c4 (fun set' g1 g2 => ih _ _ _ (by omega) (by omega) (by omega) g2)
  refine zn_con hB zd256_0 rfl ?_
  refine zn_ild hB zd256_1 rfl rfl ?_
  refine zn_bin hB zd256_2 rfl (fun u2 v2 q2 r2 => ?_)
  have hz := zq_shl q2 r2 h0 h1
  refine zn_ist hB zd256_3 rfl rfl rfl ?_
  refine zn_con hB zd256_4 rfl ?_
  refine zn_ist hB zd256_5 rfl rfl rfl ?_
  exact outer 16777218 _ _ _ (by omega) hz.1 hz.1 hz.2
end ZSEARCH
