/-! What is told: exactly, on both sides. -/
def zs_shl (a b : Int) : Int := zn_ev (fun x y => x <<< (y &&& 31)) a b
def zs_bit (t i : Int) : Int := zn_ev (fun x y => x &&& y) (zn_ev (fun x y => x >>> (y &&& 31)) t i) 1
/-- whether a star is told -/
def zs_has (t i : Int) : Int := if 0 ≤ i ∧ i < 24 ∧ zs_bit t i ≠ 0 then 1 else 0
def zs_in (n a b : Int) : Int := if a ≤ n ∧ n ≤ b then 1 else 0
def zs_pl (x y : Int) : Int := if 0 ≤ x ∧ x < 24 ∧ 0 ≤ y ∧ y < 12 then 1 else 0
def zs_star (t i c r b : Int) : Int := if zs_in i 0 23 = 1 ∧ zs_pl c r = 1 ∧ zs_in b 1 9 = 1 then zn_ev (fun x y => x ||| y) t (zs_shl 1 i) else t
def zs_gone (t i : Int) : Int := if zs_has t i = 1 then zn_ev (fun x y => x &&& y) t (zn_ev (fun x y => x ^^^ y) (zs_shl 1 i) (-1)) else t
def zs_walk (t i c r : Int) : Int := if zs_has t i = 1 ∧ zs_in c (-3) 3 = 1 ∧ zs_in r (-3) 3 = 1 then 1 else 0
theorem zs_of {a : Int} (h1 : -2147483648 ≤ a) (h2 : a ≤ 2147483647) : (Int32.ofInt a).toInt = a := by
  rw [Int32.toInt_ofInt]
  exact z_bmod h1 h2
theorem zs_z {a : Int} {r : zR} (h1 : r.1 ≤ a) (h2 : a ≤ r.2) (b1 : -2147483648 ≤ r.1) (b2 : r.2 ≤ 2147483647) : z_in r (Int32.ofInt a) := by
  rw [z_in, zs_of (by omega) (by omega)]
  exact ⟨h1, h2⟩
theorem zs_full (op : Int32 → Int32 → Int32) (a b : Int) : -2147483648 ≤ zn_ev op a b ∧ zn_ev op a b ≤ 2147483647 := ⟨z_lo _, z_hi _⟩
theorem zs_bit01 {t i : Int} : zs_bit t i = 0 ∨ zs_bit t i = 1 := by
  have := z_and_ok (a := z_full) (b := (1, 1)) (x := Int32.ofInt (zn_ev (fun x y => x >>> (y &&& 31)) t i)) (y := Int32.ofInt 1) (z_in_full _) (zs_z (by decide) (by decide) (by decide) (by decide))
  have h := zn_and1 (b := 1) (by decide) this
  have h : 0 ≤ zs_bit t i ∧ zs_bit t i ≤ 1 := h
  omega
theorem zs_shl_in {i : Int} (h1 : 0 ≤ i) (h2 : i < 24) : 0 ≤ zs_shl 1 i ∧ zs_shl 1 i ≤ 8388608 := by
  have := z_shl_ok (a := (1, 1)) (b := (0, 23)) (x := Int32.ofInt 1) (y := Int32.ofInt i) (zs_z (by decide) (by decide) (by decide) (by decide)) (zs_z h1 (by show i ≤ 23; omega) (by decide) (by decide))
  have e : z_shl (1, 1) (0, 23) = (1, 8388608) := by decide +kernel
  rw [e] at this
  have h : 1 ≤ zs_shl 1 i ∧ zs_shl 1 i ≤ 8388608 := this
  omega
theorem zs_star_in {t i c r b : Int} (h1 : 0 ≤ t) (h2 : t ≤ 16777215) : 0 ≤ zs_star t i c r b ∧ zs_star t i c r b ≤ 16777215 := by
  unfold zs_star
  split
  · rename_i h
    have hi : 0 ≤ i ∧ i < 24 := by
      have := h.1
      unfold zs_in at this
      split at this
      · omega
      · omega
    obtain ⟨k1, k2⟩ := zs_shl_in hi.1 hi.2
    have := z_or_ok (a := (0, 16777215)) (b := (0, 8388608)) (x := Int32.ofInt t) (y := Int32.ofInt (zs_shl 1 i)) (zs_z h1 h2 (by decide) (by decide)) (zs_z k1 k2 (by decide) (by decide))
    have e : z_or (0, 16777215) (0, 8388608) = (0, 16777215) := by decide +kernel
    rw [e] at this
    exact this
  · exact ⟨h1, h2⟩
theorem zs_gone_in {t i : Int} (h1 : 0 ≤ t) (h2 : t ≤ 16777215) : 0 ≤ zs_gone t i ∧ zs_gone t i ≤ 16777215 := by
  unfold zs_gone
  split
  · have := z_and_ok (a := (0, 16777215)) (b := z_full) (x := Int32.ofInt t) (y := Int32.ofInt (zn_ev (fun x y => x ^^^ y) (zs_shl 1 i) (-1))) (zs_z h1 h2 (by decide) (by decide)) (z_in_full _)
    have e : z_and (0, 16777215) z_full = (0, 16777215) := by decide +kernel
    rw [e] at this
    exact this
  · exact ⟨h1, h2⟩
theorem zs_up {g : Int → Int} {n lo hi a v : Int} (h : ∀ j, 0 ≤ j → j < n → lo ≤ g j ∧ g j ≤ hi) (h1 : lo ≤ v) (h2 : v ≤ hi) : ∀ j, 0 ≤ j → j < n → lo ≤ zn_up g a v j ∧ zn_up g a v j ≤ hi := by
  intro j j1 j2
  by_cases e : j = a
  · rw [e, zn_up_s]; exact ⟨h1, h2⟩
  · rw [zn_up_n e]; exact h j j1 j2
theorem zs_in_ne {n a b : Int} (h : zs_in n a b ≠ 0) : zs_in n a b = 1 ∧ a ≤ n ∧ n ≤ b := by
  unfold zs_in at h ⊢
  by_cases e : a ≤ n ∧ n ≤ b
  · rw [if_pos e]; exact ⟨rfl, e⟩
  · rw [if_neg e] at h; exact absurd rfl h
theorem zs_pl_ne {x y : Int} (h : zs_pl x y ≠ 0) : zs_pl x y = 1 ∧ 0 ≤ x ∧ x < 24 ∧ 0 ≤ y ∧ y < 12 := by
  unfold zs_pl at h ⊢
  by_cases e : 0 ≤ x ∧ x < 24 ∧ 0 ≤ y ∧ y < 12
  · rw [if_pos e]; exact ⟨rfl, e⟩
  · rw [if_neg e] at h; exact absurd rfl h
theorem zs_has_ne {t i : Int} (h : zs_has t i ≠ 0) : zs_has t i = 1 ∧ 0 ≤ i ∧ i < 24 := by
  unfold zs_has at h ⊢
  by_cases e : 0 ≤ i ∧ i < 24 ∧ zs_bit t i ≠ 0
  · rw [if_pos e]; exact ⟨rfl, e.1, e.2.1⟩
  · rw [if_neg e] at h; exact absurd rfl h
theorem zs_has_1 {t i : Int} (h1 : 0 ≤ i) (h2 : i < 24) (h : zs_bit t i ≠ 0) : some (1 : Int) = some (zs_has t i) := by
  unfold zs_has
  rw [if_pos ⟨h1, h2, h⟩]
theorem zs_has_0 {t i : Int} (h : zs_bit t i = 0) : some (0 : Int) = some (zs_has t i) := by
  unfold zs_has
  rw [if_neg (fun k => k.2.2 h)]
theorem zs_has_l {t i : Int} (h : i < 0 ∨ 24 ≤ i) : some (0 : Int) = some (zs_has t i) := by
  unfold zs_has
  rw [if_neg (by omega)]
abbrev zyX : zNL := (7, [(0, 0), (1, 1)], [(1, 1, 0, 0)], [(0, 0, 0, 1), (1, 1, 1, 2), (1, 1, 2, 3), (1, 1, 3, 4), (1, 1, 4, 5), (1, 1, 5, 6)], [(2, 0, 24, 0), (3, 0, 24, 1), (4, 0, 24, 2), (5, 0, 24, 3), (6, 0, 24, 4)])
section ZSX
variable {t i c r b n x y : Int} {co ro br wc wr : Int → Int}
theorem zd15_0 : decode zxm15.2.1 0 = .ok (.iload_n 0, 1) := by decide +kernel
theorem zd15_1 : decode zxm15.2.1 1 = .ok (.iload_n 1, 1) := by decide +kernel
theorem zd15_2 : decode zxm15.2.1 2 = .ok (.if_icmp .lt 12, 3) := by decide +kernel
theorem zd15_5 : decode zxm15.2.1 5 = .ok (.iload_n 0, 1) := by decide +kernel
theorem zd15_6 : decode zxm15.2.1 6 = .ok (.iload_n 2, 1) := by decide +kernel
theorem zd15_7 : decode zxm15.2.1 7 = .ok (.if_icmp .gt 7, 3) := by decide +kernel
theorem zd15_10 : decode zxm15.2.1 10 = .ok (.iconst 1, 1) := by decide +kernel
theorem zd15_11 : decode zxm15.2.1 11 = .ok (.goto 4, 3) := by decide +kernel
theorem zd15_14 : decode zxm15.2.1 14 = .ok (.iconst 0, 1) := by decide +kernel
theorem zd15_15 : decode zxm15.2.1 15 = .ok (.ireturn, 1) := by decide +kernel
theorem zsx15  : zn_OK z_TB z_cl z_KX zyX zxm15 (0, 0) (fun va F G => va = [.inl n, .inl x, .inl y]) (fun va F G r F' G' => F' = F ∧ G' = G ∧ r = some (zs_in n x y)) := zn_meth (K := (z_KF0, z_KC0, z_KL0, z_KT0, [], [], [], none)) (FT := z_FT) (MT := z_MT) (n := 3) zxp15 (z_ks0 _ (fun _ h => List.mem_cons_of_mem _ h) _ _ _ _ (fun j r h _ => by cases h)) (fun _ _ => zs_KX_p) (by decide +kernel) (fun va F G h => by first | (obtain ⟨rfl, _⟩ := h; rfl) | (obtain rfl := h; rfl)) rfl fun good va F G hB hret hvret hP => by
  obtain rfl := hP
  refine zn_ild hB zd15_0 rfl rfl ?_
  refine zn_ild hB zd15_1 rfl rfl ?_
  refine zn_clt hB zd15_2 rfl (fun h2 => ?_) (fun h2 => ?_)
  · refine zn_con hB zd15_14 rfl ?_
    exact hret _ _ _ _ _ zd15_15 (by constructor <;> decide) ⟨rfl, rfl, by unfold zs_in; first | rw [if_pos (by omega)] | rw [if_neg (by omega)]⟩
  · refine zn_ild hB zd15_5 rfl rfl ?_
    refine zn_ild hB zd15_6 rfl rfl ?_
    refine zn_cgt hB zd15_7 rfl (fun h7 => ?_) (fun h7 => ?_)
    · refine zn_con hB zd15_14 rfl ?_
      exact hret _ _ _ _ _ zd15_15 (by constructor <;> decide) ⟨rfl, rfl, by unfold zs_in; first | rw [if_pos (by omega)] | rw [if_neg (by omega)]⟩
    · refine zn_con hB zd15_10 rfl ?_
      refine zn_goto hB zd15_11 rfl ?_
      exact hret _ _ _ _ _ zd15_15 (by constructor <;> decide) ⟨rfl, rfl, by unfold zs_in; first | rw [if_pos (by omega)] | rw [if_neg (by omega)]⟩
theorem zd16_0 : decode zxm16.2.1 0 = .ok (.iload_n 0, 1) := by decide +kernel
theorem zd16_1 : decode zxm16.2.1 1 = .ok (.ifCond .lt 23, 3) := by decide +kernel
theorem zd16_4 : decode zxm16.2.1 4 = .ok (.iload_n 0, 1) := by decide +kernel
theorem zd16_5 : decode zxm16.2.1 5 = .ok (.bipush 24, 2) := by decide +kernel
theorem zd16_7 : decode zxm16.2.1 7 = .ok (.if_icmp .ge 17, 3) := by decide +kernel
theorem zd16_10 : decode zxm16.2.1 10 = .ok (.iload_n 1, 1) := by decide +kernel
theorem zd16_11 : decode zxm16.2.1 11 = .ok (.ifCond .lt 13, 3) := by decide +kernel
theorem zd16_14 : decode zxm16.2.1 14 = .ok (.iload_n 1, 1) := by decide +kernel
theorem zd16_15 : decode zxm16.2.1 15 = .ok (.bipush 12, 2) := by decide +kernel
theorem zd16_17 : decode zxm16.2.1 17 = .ok (.if_icmp .ge 7, 3) := by decide +kernel
theorem zd16_20 : decode zxm16.2.1 20 = .ok (.iconst 1, 1) := by decide +kernel
theorem zd16_21 : decode zxm16.2.1 21 = .ok (.goto 4, 3) := by decide +kernel
theorem zd16_24 : decode zxm16.2.1 24 = .ok (.iconst 0, 1) := by decide +kernel
theorem zd16_25 : decode zxm16.2.1 25 = .ok (.ireturn, 1) := by decide +kernel
theorem zsx16  : zn_OK z_TB z_cl z_KX zyX zxm16 (0, 0) (fun va F G => va = [.inl x, .inl y]) (fun va F G r F' G' => F' = F ∧ G' = G ∧ r = some (zs_pl x y)) := zn_meth (K := (z_KF0, z_KC0, z_KL0, z_KT0, [], [], [], none)) (FT := z_FT) (MT := z_MT) (n := 2) zxp16 (z_ks0 _ (fun _ h => List.mem_cons_of_mem _ h) _ _ _ _ (fun j r h _ => by cases h)) (fun _ _ => zs_KX_p) (by decide +kernel) (fun va F G h => by first | (obtain ⟨rfl, _⟩ := h; rfl) | (obtain rfl := h; rfl)) rfl fun good va F G hB hret hvret hP => by
  obtain rfl := hP
  refine zn_ild hB zd16_0 rfl rfl ?_
  refine zn_zlt hB zd16_1 rfl (fun h1 => ?_) (fun h1 => ?_)
  · refine zn_con hB zd16_24 rfl ?_
    exact hret _ _ _ _ _ zd16_25 (by constructor <;> decide) ⟨rfl, rfl, by unfold zs_pl; first | rw [if_pos (by omega)] | rw [if_neg (by omega)]⟩
  · refine zn_ild hB zd16_4 rfl rfl ?_
    refine zn_con hB zd16_5 rfl ?_
    refine zn_cge hB zd16_7 rfl (fun h7 => ?_) (fun h7 => ?_)
    · refine zn_con hB zd16_24 rfl ?_
      exact hret _ _ _ _ _ zd16_25 (by constructor <;> decide) ⟨rfl, rfl, by unfold zs_pl; first | rw [if_pos (by omega)] | rw [if_neg (by omega)]⟩
    · refine zn_ild hB zd16_10 rfl rfl ?_
      refine zn_zlt hB zd16_11 rfl (fun h11 => ?_) (fun h11 => ?_)
      · refine zn_con hB zd16_24 rfl ?_
        exact hret _ _ _ _ _ zd16_25 (by constructor <;> decide) ⟨rfl, rfl, by unfold zs_pl; first | rw [if_pos (by omega)] | rw [if_neg (by omega)]⟩
      · refine zn_ild hB zd16_14 rfl rfl ?_
        refine zn_con hB zd16_15 rfl ?_
        refine zn_cge hB zd16_17 rfl (fun h17 => ?_) (fun h17 => ?_)
        · refine zn_con hB zd16_24 rfl ?_
          exact hret _ _ _ _ _ zd16_25 (by constructor <;> decide) ⟨rfl, rfl, by unfold zs_pl; first | rw [if_pos (by omega)] | rw [if_neg (by omega)]⟩
        · refine zn_con hB zd16_20 rfl ?_
          refine zn_goto hB zd16_21 rfl ?_
          exact hret _ _ _ _ _ zd16_25 (by constructor <;> decide) ⟨rfl, rfl, by unfold zs_pl; first | rw [if_pos (by omega)] | rw [if_neg (by omega)]⟩
theorem zd18_0 : decode zxm18.2.1 0 = .ok (.iload_n 1, 1) := by decide +kernel
theorem zd18_1 : decode zxm18.2.1 1 = .ok (.ifCond .lt 24, 3) := by decide +kernel
theorem zd18_4 : decode zxm18.2.1 4 = .ok (.iload_n 1, 1) := by decide +kernel
theorem zd18_5 : decode zxm18.2.1 5 = .ok (.bipush 24, 2) := by decide +kernel
theorem zd18_7 : decode zxm18.2.1 7 = .ok (.if_icmp .ge 18, 3) := by decide +kernel
theorem zd18_10 : decode zxm18.2.1 10 = .ok (.aload_n 0, 1) := by decide +kernel
theorem zd18_11 : decode zxm18.2.1 11 = .ok (.getfield 9, 3) := by decide +kernel
theorem zd18_14 : decode zxm18.2.1 14 = .ok (.iload_n 1, 1) := by decide +kernel
theorem zd18_15 : decode zxm18.2.1 15 = .ok (.ishr, 1) := by decide +kernel
theorem zd18_16 : decode zxm18.2.1 16 = .ok (.iconst 1, 1) := by decide +kernel
theorem zd18_17 : decode zxm18.2.1 17 = .ok (.iand, 1) := by decide +kernel
theorem zd18_18 : decode zxm18.2.1 18 = .ok (.ifCond .eq 7, 3) := by decide +kernel
theorem zd18_21 : decode zxm18.2.1 21 = .ok (.iconst 1, 1) := by decide +kernel
theorem zd18_22 : decode zxm18.2.1 22 = .ok (.goto 4, 3) := by decide +kernel
theorem zd18_25 : decode zxm18.2.1 25 = .ok (.iconst 0, 1) := by decide +kernel
theorem zd18_26 : decode zxm18.2.1 26 = .ok (.ireturn, 1) := by decide +kernel
theorem zsx18  : zn_OK z_TB z_cl z_KX zyX zxm18 (0, 0) (fun va F G => va = [.inr 1, .inl i] ∧ F = [t]) (fun va F G r F' G' => F' = F ∧ G' = G ∧ r = some (zs_has t i)) := zn_meth (K := (z_KF8, z_KC8, z_KL8, z_KT8, [], [], [], none)) (FT := z_FT) (MT := z_MT) (n := 2) zxp18 (z_ks8 _ (fun _ h => List.mem_cons_of_mem _ h) _ _ _ _ (fun j r h _ => by cases h)) (fun _ _ => zs_KX_p) (by decide +kernel) (fun va F G h => by first | (obtain ⟨rfl, _⟩ := h; rfl) | (obtain rfl := h; rfl)) rfl fun good va F G hB hret hvret hP => by
  obtain ⟨rfl, rfl⟩ := hP
  refine zn_ild hB zd18_0 rfl rfl ?_
  refine zn_zlt hB zd18_1 rfl (fun h1 => ?_) (fun h1 => ?_)
  · refine zn_con hB zd18_25 rfl ?_
    exact hret _ _ _ _ _ zd18_26 (by constructor <;> decide) ⟨rfl, rfl, by first | exact zs_has_1 (by omega) (by omega) hx18 | exact zs_has_0 hx18 | exact zs_has_l (by omega)⟩
  · refine zn_ild hB zd18_4 rfl rfl ?_
    refine zn_con hB zd18_5 rfl ?_
    refine zn_cge hB zd18_7 rfl (fun h7 => ?_) (fun h7 => ?_)
    · refine zn_con hB zd18_25 rfl ?_
      exact hret _ _ _ _ _ zd18_26 (by constructor <;> decide) ⟨rfl, rfl, by first | exact zs_has_1 (by omega) (by omega) hx18 | exact zs_has_0 hx18 | exact zs_has_l (by omega)⟩
    · refine zn_ald hB zd18_10 rfl rfl rfl ?_
      refine zn_getf hB zd18_11 rfl rfl (fun q11 r11 => ?_)
      refine zn_ild hB zd18_14 rfl rfl ?_
      refine zn_binv hB zd18_15 rfl ?_
      refine zn_con hB zd18_16 rfl ?_
      refine zn_binv hB zd18_17 rfl ?_
      refine zn_zeq hB zd18_18 rfl (fun hx18 => ?_) (fun hx18 => ?_)
      · refine zn_con hB zd18_25 rfl ?_
        exact hret _ _ _ _ _ zd18_26 (by constructor <;> decide) ⟨rfl, rfl, by first | exact zs_has_1 (by omega) (by omega) hx18 | exact zs_has_0 hx18 | exact zs_has_l (by omega)⟩
      · refine zn_con hB zd18_21 rfl ?_
        refine zn_goto hB zd18_22 rfl ?_
        exact hret _ _ _ _ _ zd18_26 (by constructor <;> decide) ⟨rfl, rfl, by first | exact zs_has_1 (by omega) (by omega) hx18 | exact zs_has_0 hx18 | exact zs_has_l (by omega)⟩
theorem zd14_0 : decode zxm14.2.1 0 = .ok (.iload_n 1, 1) := by decide +kernel
theorem zd14_1 : decode zxm14.2.1 1 = .ok (.iconst 0, 1) := by decide +kernel
theorem zd14_2 : decode zxm14.2.1 2 = .ok (.bipush 23, 2) := by decide +kernel
theorem zd14_4 : decode zxm14.2.1 4 = .ok (.invokestatic 126, 3) := by decide +kernel
theorem zd14_7 : decode zxm14.2.1 7 = .ok (.ifCond .eq 22, 3) := by decide +kernel
theorem zd14_10 : decode zxm14.2.1 10 = .ok (.iload_n 2, 1) := by decide +kernel
theorem zd14_11 : decode zxm14.2.1 11 = .ok (.iload_n 3, 1) := by decide +kernel
theorem zd14_12 : decode zxm14.2.1 12 = .ok (.invokestatic 130, 3) := by decide +kernel
theorem zd14_15 : decode zxm14.2.1 15 = .ok (.ifCond .eq 14, 3) := by decide +kernel
theorem zd14_18 : decode zxm14.2.1 18 = .ok (.iload 4, 2) := by decide +kernel
theorem zd14_20 : decode zxm14.2.1 20 = .ok (.iconst 1, 1) := by decide +kernel
theorem zd14_21 : decode zxm14.2.1 21 = .ok (.bipush 9, 2) := by decide +kernel
theorem zd14_23 : decode zxm14.2.1 23 = .ok (.invokestatic 126, 3) := by decide +kernel
theorem zd14_26 : decode zxm14.2.1 26 = .ok (.ifCond .ne 5, 3) := by decide +kernel
theorem zd14_29 : decode zxm14.2.1 29 = .ok (.iconst 0, 1) := by decide +kernel
theorem zd14_30 : decode zxm14.2.1 30 = .ok (.ireturn, 1) := by decide +kernel
theorem zd14_31 : decode zxm14.2.1 31 = .ok (.aload_n 0, 1) := by decide +kernel
theorem zd14_32 : decode zxm14.2.1 32 = .ok (.getfield 10, 3) := by decide +kernel
theorem zd14_35 : decode zxm14.2.1 35 = .ok (.dup, 1) := by decide +kernel
theorem zd14_36 : decode zxm14.2.1 36 = .ok (.getfield 134, 3) := by decide +kernel
theorem zd14_39 : decode zxm14.2.1 39 = .ok (.iconst 1, 1) := by decide +kernel
theorem zd14_40 : decode zxm14.2.1 40 = .ok (.iload_n 1, 1) := by decide +kernel
theorem zd14_41 : decode zxm14.2.1 41 = .ok (.ishl, 1) := by decide +kernel
theorem zd14_42 : decode zxm14.2.1 42 = .ok (.ior, 1) := by decide +kernel
theorem zd14_43 : decode zxm14.2.1 43 = .ok (.putfield 134, 3) := by decide +kernel
theorem zd14_46 : decode zxm14.2.1 46 = .ok (.aload_n 0, 1) := by decide +kernel
theorem zd14_47 : decode zxm14.2.1 47 = .ok (.getfield 10, 3) := by decide +kernel
theorem zd14_50 : decode zxm14.2.1 50 = .ok (.getfield 138, 3) := by decide +kernel
theorem zd14_53 : decode zxm14.2.1 53 = .ok (.iload_n 1, 1) := by decide +kernel
theorem zd14_54 : decode zxm14.2.1 54 = .ok (.iload_n 2, 1) := by decide +kernel
theorem zd14_55 : decode zxm14.2.1 55 = .ok (.iastore, 1) := by decide +kernel
theorem zd14_56 : decode zxm14.2.1 56 = .ok (.aload_n 0, 1) := by decide +kernel
theorem zd14_57 : decode zxm14.2.1 57 = .ok (.getfield 10, 3) := by decide +kernel
theorem zd14_60 : decode zxm14.2.1 60 = .ok (.getfield 141, 3) := by decide +kernel
theorem zd14_63 : decode zxm14.2.1 63 = .ok (.iload_n 1, 1) := by decide +kernel
theorem zd14_64 : decode zxm14.2.1 64 = .ok (.iload_n 3, 1) := by decide +kernel
theorem zd14_65 : decode zxm14.2.1 65 = .ok (.iastore, 1) := by decide +kernel
theorem zd14_66 : decode zxm14.2.1 66 = .ok (.aload_n 0, 1) := by decide +kernel
theorem zd14_67 : decode zxm14.2.1 67 = .ok (.getfield 10, 3) := by decide +kernel
theorem zd14_70 : decode zxm14.2.1 70 = .ok (.getfield 144, 3) := by decide +kernel
theorem zd14_73 : decode zxm14.2.1 73 = .ok (.iload_n 1, 1) := by decide +kernel
theorem zd14_74 : decode zxm14.2.1 74 = .ok (.iload 4, 2) := by decide +kernel
theorem zd14_76 : decode zxm14.2.1 76 = .ok (.iastore, 1) := by decide +kernel
theorem zd14_77 : decode zxm14.2.1 77 = .ok (.aload_n 0, 1) := by decide +kernel
theorem zd14_78 : decode zxm14.2.1 78 = .ok (.getfield 10, 3) := by decide +kernel
theorem zd14_81 : decode zxm14.2.1 81 = .ok (.getfield 147, 3) := by decide +kernel
theorem zd14_84 : decode zxm14.2.1 84 = .ok (.iload_n 1, 1) := by decide +kernel
theorem zd14_85 : decode zxm14.2.1 85 = .ok (.iconst 0, 1) := by decide +kernel
theorem zd14_86 : decode zxm14.2.1 86 = .ok (.iastore, 1) := by decide +kernel
theorem zd14_87 : decode zxm14.2.1 87 = .ok (.aload_n 0, 1) := by decide +kernel
theorem zd14_88 : decode zxm14.2.1 88 = .ok (.getfield 10, 3) := by decide +kernel
theorem zd14_91 : decode zxm14.2.1 91 = .ok (.getfield 150, 3) := by decide +kernel
theorem zd14_94 : decode zxm14.2.1 94 = .ok (.iload_n 1, 1) := by decide +kernel
theorem zd14_95 : decode zxm14.2.1 95 = .ok (.iconst 0, 1) := by decide +kernel
theorem zd14_96 : decode zxm14.2.1 96 = .ok (.iastore, 1) := by decide +kernel
theorem zd14_97 : decode zxm14.2.1 97 = .ok (.iconst 1, 1) := by decide +kernel
theorem zd14_98 : decode zxm14.2.1 98 = .ok (.ireturn, 1) := by decide +kernel
theorem zsx14  : zn_OK z_TB z_cl z_KX zyX zxm14 (1, 60) (fun va F G => va = [.inr 0, .inl i, .inl c, .inl r, .inl b] ∧ F = [t] ∧ G = [co, ro, br, wc, wr] ∧ (∀ j, 0 ≤ j → j < 24 → 0 ≤ co j ∧ co j ≤ 23) ∧ (∀ j, 0 ≤ j → j < 24 → 0 ≤ ro j ∧ ro j ≤ 11) ∧ (∀ j, 0 ≤ j → j < 24 → 0 ≤ br j ∧ br j ≤ 9) ∧ (∀ j, 0 ≤ j → j < 24 → -3 ≤ wc j ∧ wc j ≤ 3) ∧ (∀ j, 0 ≤ j → j < 24 → -3 ≤ wr j ∧ wr j ≤ 3)) (fun va F G r' F' G' => (r' = some 0 ∨ r' = some 1) ∧ F' = [zs_star t i c r b] ∧ ∃ co' ro' br' wc' wr', G' = [co', ro', br', wc', wr'] ∧ (∀ j, 0 ≤ j → j < 24 → 0 ≤ co' j ∧ co' j ≤ 23) ∧ (∀ j, 0 ≤ j → j < 24 → 0 ≤ ro' j ∧ ro' j ≤ 11) ∧ (∀ j, 0 ≤ j → j < 24 → 0 ≤ br' j ∧ br' j ≤ 9) ∧ (∀ j, 0 ≤ j → j < 24 → -3 ≤ wc' j ∧ wc' j ≤ 3) ∧ (∀ j, 0 ≤ j → j < 24 → -3 ≤ wr' j ∧ wr' j ≤ 3)) := zn_meth (K := (z_KF0, z_KC0, z_KL0, z_KT0, [], [], [], none)) (FT := z_FT) (MT := z_MT) (n := 5) zxp14 (z_ks0 _ (fun _ h => List.mem_cons_of_mem _ h) _ _ _ _ (fun j r h _ => by cases h)) (fun _ _ => zs_KX_p) (by decide +kernel) (fun va F G h => by obtain ⟨rfl, _⟩ := h; rfl) rfl fun good va F G hB hret hvret hP => by
  obtain ⟨rfl, rfl, rfl, hr1, hr2, hr3, hr4, hr5⟩ := hP
  refine zn_ild hB zd14_0 rfl rfl ?_
  refine zn_con hB zd14_1 rfl ?_
  refine zn_con hB zd14_2 rfl ?_
  refine zn_it3 hB (zsx15 (n := i) (x := 0) (y := 23)) zd14_4 zxt15 rfl rfl (fun r4 F4 G4 hq4 => ?_)
  obtain ⟨rfl, rfl, hq4⟩ := hq4
  cases hq4
  refine zn_zeq hB zd14_7 rfl (fun n7 => ?_) (fun n7 => ?_)
  · refine zn_con hB zd14_29 rfl ?_
    exact hret _ _ _ _ _ zd14_30 (by constructor <;> decide) ⟨Or.inl rfl, by unfold zs_star; rw [if_neg (by intro h; obtain ⟨h1, h2, h3⟩ := h; omega)], co, ro, br, wc, wr, rfl, hr1, hr2, hr3, hr4, hr5⟩
  · refine zn_ild hB zd14_10 rfl rfl ?_
    refine zn_ild hB zd14_11 rfl rfl ?_
    refine zn_it2 hB (zsx16 (x := c) (y := r)) zd14_12 zxt16 rfl rfl (fun r12 F12 G12 hq12 => ?_)
    obtain ⟨rfl, rfl, hq12⟩ := hq12
    cases hq12
    refine zn_zeq hB zd14_15 rfl (fun n15 => ?_) (fun n15 => ?_)
    · refine zn_con hB zd14_29 rfl ?_
      exact hret _ _ _ _ _ zd14_30 (by constructor <;> decide) ⟨Or.inl rfl, by unfold zs_star; rw [if_neg (by intro h; obtain ⟨h1, h2, h3⟩ := h; omega)], co, ro, br, wc, wr, rfl, hr1, hr2, hr3, hr4, hr5⟩
    · refine zn_ild hB zd14_18 rfl rfl ?_
      refine zn_con hB zd14_20 rfl ?_
      refine zn_con hB zd14_21 rfl ?_
      refine zn_it3 hB (zsx15 (n := b) (x := 1) (y := 9)) zd14_23 zxt15 rfl rfl (fun r23 F23 G23 hq23 => ?_)
      obtain ⟨rfl, rfl, hq23⟩ := hq23
      cases hq23
      refine zn_zne hB zd14_26 rfl (fun n26 => ?_) (fun n26 => ?_)
      · obtain ⟨hi, hi1, hi2⟩ := zs_in_ne n7
        obtain ⟨hp, hp1, hp2, hp3, hp4⟩ := zs_pl_ne n15
        obtain ⟨hb, hb1, hb2⟩ := zs_in_ne n26
        refine zn_ald hB zd14_31 rfl rfl rfl ?_
        refine zn_getr hB zd14_32 rfl ?_
        refine zn_dup hB zd14_35 ?_
        refine zn_getf hB zd14_36 rfl rfl (fun q36 r36 => ?_)
        refine zn_con hB zd14_39 rfl ?_
        refine zn_ild hB zd14_40 rfl rfl ?_
        refine zn_binv hB zd14_41 rfl ?_
        refine zn_binv hB zd14_42 rfl ?_
        refine zn_putf hB zd14_43 rfl rfl (fun h => by cases h) rfl ?_
        refine zn_ald hB zd14_46 rfl rfl rfl ?_
        refine zn_getr hB zd14_47 rfl ?_
        refine zn_getr hB zd14_50 rfl ?_
        refine zn_ild hB zd14_53 rfl rfl ?_
        refine zn_ild hB zd14_54 rfl rfl ?_
        refine zn_iast hB zd14_55 rfl rfl (by omega) (by omega) ?_
        refine zn_ald hB zd14_56 rfl rfl rfl ?_
        refine zn_getr hB zd14_57 rfl ?_
        refine zn_getr hB zd14_60 rfl ?_
        refine zn_ild hB zd14_63 rfl rfl ?_
        refine zn_ild hB zd14_64 rfl rfl ?_
        refine zn_iast hB zd14_65 rfl rfl (by omega) (by omega) ?_
        refine zn_ald hB zd14_66 rfl rfl rfl ?_
        refine zn_getr hB zd14_67 rfl ?_
        refine zn_getr hB zd14_70 rfl ?_
        refine zn_ild hB zd14_73 rfl rfl ?_
        refine zn_ild hB zd14_74 rfl rfl ?_
        refine zn_iast hB zd14_76 rfl rfl (by omega) (by omega) ?_
        refine zn_ald hB zd14_77 rfl rfl rfl ?_
        refine zn_getr hB zd14_78 rfl ?_
        refine zn_getr hB zd14_81 rfl ?_
        refine zn_ild hB zd14_84 rfl rfl ?_
        refine zn_con hB zd14_85 rfl ?_
        refine zn_iast hB zd14_86 rfl rfl (by omega) (by omega) ?_
        refine zn_ald hB zd14_87 rfl rfl rfl ?_
        refine zn_getr hB zd14_88 rfl ?_
        refine zn_getr hB zd14_91 rfl ?_
        refine zn_ild hB zd14_94 rfl rfl ?_
        refine zn_con hB zd14_95 rfl ?_
        refine zn_iast hB zd14_96 rfl rfl (by omega) (by omega) ?_
        refine zn_con hB zd14_97 rfl ?_
        exact hret _ _ _ _ _ zd14_98 (by constructor <;> decide) ⟨Or.inr rfl, by unfold zs_star; rw [if_pos ⟨hi, hp, hb⟩]; rfl, zn_up co i c, zn_up ro i r, zn_up br i b, zn_up wc i 0, zn_up wr i 0, rfl, zs_up hr1 (by omega) (by omega), zs_up hr2 (by omega) (by omega), zs_up hr3 (by omega) (by omega), zs_up hr4 (by omega) (by omega), zs_up hr5 (by omega) (by omega)⟩
      · refine zn_con hB zd14_29 rfl ?_
        exact hret _ _ _ _ _ zd14_30 (by constructor <;> decide) ⟨Or.inl rfl, by unfold zs_star; rw [if_neg (by intro h; obtain ⟨h1, h2, h3⟩ := h; omega)], co, ro, br, wc, wr, rfl, hr1, hr2, hr3, hr4, hr5⟩
theorem zd19_0 : decode zxm19.2.1 0 = .ok (.aload_n 0, 1) := by decide +kernel
theorem zd19_1 : decode zxm19.2.1 1 = .ok (.getfield 10, 3) := by decide +kernel
theorem zd19_4 : decode zxm19.2.1 4 = .ok (.iload_n 1, 1) := by decide +kernel
theorem zd19_5 : decode zxm19.2.1 5 = .ok (.invokevirtual 153, 3) := by decide +kernel
theorem zd19_8 : decode zxm19.2.1 8 = .ok (.ifCond .ne 5, 3) := by decide +kernel
theorem zd19_11 : decode zxm19.2.1 11 = .ok (.iconst 0, 1) := by decide +kernel
theorem zd19_12 : decode zxm19.2.1 12 = .ok (.ireturn, 1) := by decide +kernel
theorem zd19_13 : decode zxm19.2.1 13 = .ok (.aload_n 0, 1) := by decide +kernel
theorem zd19_14 : decode zxm19.2.1 14 = .ok (.getfield 10, 3) := by decide +kernel
theorem zd19_17 : decode zxm19.2.1 17 = .ok (.dup, 1) := by decide +kernel
theorem zd19_18 : decode zxm19.2.1 18 = .ok (.getfield 134, 3) := by decide +kernel
theorem zd19_21 : decode zxm19.2.1 21 = .ok (.iconst 1, 1) := by decide +kernel
theorem zd19_22 : decode zxm19.2.1 22 = .ok (.iload_n 1, 1) := by decide +kernel
theorem zd19_23 : decode zxm19.2.1 23 = .ok (.ishl, 1) := by decide +kernel
theorem zd19_24 : decode zxm19.2.1 24 = .ok (.iconst (-1), 1) := by decide +kernel
theorem zd19_25 : decode zxm19.2.1 25 = .ok (.ixor, 1) := by decide +kernel
theorem zd19_26 : decode zxm19.2.1 26 = .ok (.iand, 1) := by decide +kernel
theorem zd19_27 : decode zxm19.2.1 27 = .ok (.putfield 134, 3) := by decide +kernel
theorem zd19_30 : decode zxm19.2.1 30 = .ok (.iconst 1, 1) := by decide +kernel
theorem zd19_31 : decode zxm19.2.1 31 = .ok (.ireturn, 1) := by decide +kernel
theorem zsx19  : zn_OK z_TB z_cl z_KX zyX zxm19 (1, 60) (fun va F G => va = [.inr 0, .inl i] ∧ F = [t]) (fun va F G r' F' G' => G' = G ∧ r' = some (zs_has t i) ∧ F' = [zs_gone t i]) := zn_meth (K := (z_KF0, z_KC0, z_KL0, z_KT0, [], [], [], none)) (FT := z_FT) (MT := z_MT) (n := 2) zxp19 (z_ks0 _ (fun _ h => List.mem_cons_of_mem _ h) _ _ _ _ (fun j r h _ => by cases h)) (fun _ _ => zs_KX_p) (by decide +kernel) (fun va F G h => by obtain ⟨rfl, _⟩ := h; rfl) rfl fun good va F G hB hret hvret hP => by
  obtain ⟨rfl, rfl⟩ := hP
  refine zn_ald hB zd19_0 rfl rfl rfl ?_
  refine zn_getr hB zd19_1 rfl ?_
  refine zn_ild hB zd19_4 rfl rfl ?_
  refine zn_iv1 hB (zsx18 (i := i) (t := t)) zd19_5 zxt18 rfl ⟨rfl, rfl⟩ (fun r5 F5 G5 hq5 => ?_)
  obtain ⟨rfl, rfl, hq5⟩ := hq5
  cases hq5
  refine zn_zne hB zd19_8 rfl (fun n8 => ?_) (fun n8 => ?_)
  · obtain ⟨h1, h2, h3⟩ := zs_has_ne n8
    refine zn_ald hB zd19_13 rfl rfl rfl ?_
    refine zn_getr hB zd19_14 rfl ?_
    refine zn_dup hB zd19_17 ?_
    refine zn_getf hB zd19_18 rfl rfl (fun q18 r18 => ?_)
    refine zn_con hB zd19_21 rfl ?_
    refine zn_ild hB zd19_22 rfl rfl ?_
    refine zn_binv hB zd19_23 rfl ?_
    refine zn_con hB zd19_24 rfl ?_
    refine zn_binv hB zd19_25 rfl ?_
    refine zn_binv hB zd19_26 rfl ?_
    refine zn_putf hB zd19_27 rfl rfl (fun h => by cases h) rfl ?_
    refine zn_con hB zd19_30 rfl ?_
    exact hret _ _ _ _ _ zd19_31 (by constructor <;> decide) ⟨rfl, by rw [h1], by unfold zs_gone; rw [if_pos h1]; rfl⟩
  · refine zn_con hB zd19_11 rfl ?_
    exact hret _ _ _ _ _ zd19_12 (by constructor <;> decide) ⟨rfl, by rw [n8], by unfold zs_gone; rw [if_neg (by omega)]⟩
theorem zd17_0 : decode zxm17.2.1 0 = .ok (.aload_n 0, 1) := by decide +kernel
theorem zd17_1 : decode zxm17.2.1 1 = .ok (.getfield 10, 3) := by decide +kernel
theorem zd17_4 : decode zxm17.2.1 4 = .ok (.iload_n 1, 1) := by decide +kernel
theorem zd17_5 : decode zxm17.2.1 5 = .ok (.invokevirtual 153, 3) := by decide +kernel
theorem zd17_8 : decode zxm17.2.1 8 = .ok (.ifCond .eq 23, 3) := by decide +kernel
theorem zd17_11 : decode zxm17.2.1 11 = .ok (.iload_n 2, 1) := by decide +kernel
theorem zd17_12 : decode zxm17.2.1 12 = .ok (.bipush (-3), 2) := by decide +kernel
theorem zd17_14 : decode zxm17.2.1 14 = .ok (.iconst 3, 1) := by decide +kernel
theorem zd17_15 : decode zxm17.2.1 15 = .ok (.invokestatic 126, 3) := by decide +kernel
theorem zd17_18 : decode zxm17.2.1 18 = .ok (.ifCond .eq 13, 3) := by decide +kernel
theorem zd17_21 : decode zxm17.2.1 21 = .ok (.iload_n 3, 1) := by decide +kernel
theorem zd17_22 : decode zxm17.2.1 22 = .ok (.bipush (-3), 2) := by decide +kernel
theorem zd17_24 : decode zxm17.2.1 24 = .ok (.iconst 3, 1) := by decide +kernel
theorem zd17_25 : decode zxm17.2.1 25 = .ok (.invokestatic 126, 3) := by decide +kernel
theorem zd17_28 : decode zxm17.2.1 28 = .ok (.ifCond .ne 5, 3) := by decide +kernel
theorem zd17_31 : decode zxm17.2.1 31 = .ok (.iconst 0, 1) := by decide +kernel
theorem zd17_32 : decode zxm17.2.1 32 = .ok (.ireturn, 1) := by decide +kernel
theorem zd17_33 : decode zxm17.2.1 33 = .ok (.aload_n 0, 1) := by decide +kernel
theorem zd17_34 : decode zxm17.2.1 34 = .ok (.getfield 10, 3) := by decide +kernel
theorem zd17_37 : decode zxm17.2.1 37 = .ok (.getfield 147, 3) := by decide +kernel
theorem zd17_40 : decode zxm17.2.1 40 = .ok (.iload_n 1, 1) := by decide +kernel
theorem zd17_41 : decode zxm17.2.1 41 = .ok (.iload_n 2, 1) := by decide +kernel
theorem zd17_42 : decode zxm17.2.1 42 = .ok (.iastore, 1) := by decide +kernel
theorem zd17_43 : decode zxm17.2.1 43 = .ok (.aload_n 0, 1) := by decide +kernel
theorem zd17_44 : decode zxm17.2.1 44 = .ok (.getfield 10, 3) := by decide +kernel
theorem zd17_47 : decode zxm17.2.1 47 = .ok (.getfield 150, 3) := by decide +kernel
theorem zd17_50 : decode zxm17.2.1 50 = .ok (.iload_n 1, 1) := by decide +kernel
theorem zd17_51 : decode zxm17.2.1 51 = .ok (.iload_n 3, 1) := by decide +kernel
theorem zd17_52 : decode zxm17.2.1 52 = .ok (.iastore, 1) := by decide +kernel
theorem zd17_53 : decode zxm17.2.1 53 = .ok (.iconst 1, 1) := by decide +kernel
theorem zd17_54 : decode zxm17.2.1 54 = .ok (.ireturn, 1) := by decide +kernel
theorem zsx17  : zn_OK z_TB z_cl z_KX zyX zxm17 (1, 60) (fun va F G => va = [.inr 0, .inl i, .inl c, .inl r] ∧ F = [t] ∧ G = [co, ro, br, wc, wr] ∧ (∀ j, 0 ≤ j → j < 24 → -3 ≤ wc j ∧ wc j ≤ 3) ∧ (∀ j, 0 ≤ j → j < 24 → -3 ≤ wr j ∧ wr j ≤ 3)) (fun va F G r' F' G' => F' = F ∧ r' = some (zs_walk t i c r) ∧ ∃ wc' wr', G' = [co, ro, br, wc', wr'] ∧ (∀ j, 0 ≤ j → j < 24 → -3 ≤ wc' j ∧ wc' j ≤ 3) ∧ (∀ j, 0 ≤ j → j < 24 → -3 ≤ wr' j ∧ wr' j ≤ 3)) := zn_meth (K := (z_KF0, z_KC0, z_KL0, z_KT0, [], [], [], none)) (FT := z_FT) (MT := z_MT) (n := 4) zxp17 (z_ks0 _ (fun _ h => List.mem_cons_of_mem _ h) _ _ _ _ (fun j r h _ => by cases h)) (fun _ _ => zs_KX_p) (by decide +kernel) (fun va F G h => by obtain ⟨rfl, _⟩ := h; rfl) rfl fun good va F G hB hret hvret hP => by
  obtain ⟨rfl, rfl, rfl, hr4, hr5⟩ := hP
  refine zn_ald hB zd17_0 rfl rfl rfl ?_
  refine zn_getr hB zd17_1 rfl ?_
  refine zn_ild hB zd17_4 rfl rfl ?_
  refine zn_iv1 hB (zsx18 (i := i) (t := t)) zd17_5 zxt18 rfl ⟨rfl, rfl⟩ (fun r5 F5 G5 hq5 => ?_)
  obtain ⟨rfl, rfl, hq5⟩ := hq5
  cases hq5
  refine zn_zeq hB zd17_8 rfl (fun n8 => ?_) (fun n8 => ?_)
  · refine zn_con hB zd17_31 rfl ?_
    exact hret _ _ _ _ _ zd17_32 (by constructor <;> decide) ⟨rfl, by unfold zs_walk; rw [if_neg (by intro h; obtain ⟨h1, h2, h3⟩ := h; omega)], wc, wr, rfl, hr4, hr5⟩
  · refine zn_ild hB zd17_11 rfl rfl ?_
    refine zn_con hB zd17_12 rfl ?_
    refine zn_con hB zd17_14 rfl ?_
    refine zn_it3 hB (zsx15 (n := c) (x := (-3)) (y := 3)) zd17_15 zxt15 rfl rfl (fun r15 F15 G15 hq15 => ?_)
    obtain ⟨rfl, rfl, hq15⟩ := hq15
    cases hq15
    refine zn_zeq hB zd17_18 rfl (fun n18 => ?_) (fun n18 => ?_)
    · refine zn_con hB zd17_31 rfl ?_
      exact hret _ _ _ _ _ zd17_32 (by constructor <;> decide) ⟨rfl, by unfold zs_walk; rw [if_neg (by intro h; obtain ⟨h1, h2, h3⟩ := h; omega)], wc, wr, rfl, hr4, hr5⟩
    · refine zn_ild hB zd17_21 rfl rfl ?_
      refine zn_con hB zd17_22 rfl ?_
      refine zn_con hB zd17_24 rfl ?_
      refine zn_it3 hB (zsx15 (n := r) (x := (-3)) (y := 3)) zd17_25 zxt15 rfl rfl (fun r25 F25 G25 hq25 => ?_)
      obtain ⟨rfl, rfl, hq25⟩ := hq25
      cases hq25
      refine zn_zne hB zd17_28 rfl (fun n28 => ?_) (fun n28 => ?_)
      · obtain ⟨hi, hi1, hi2⟩ := zs_has_ne n8
        obtain ⟨hc, hc1, hc2⟩ := zs_in_ne n18
        obtain ⟨hr, hr6, hr7⟩ := zs_in_ne n28
        refine zn_ald hB zd17_33 rfl rfl rfl ?_
        refine zn_getr hB zd17_34 rfl ?_
        refine zn_getr hB zd17_37 rfl ?_
        refine zn_ild hB zd17_40 rfl rfl ?_
        refine zn_ild hB zd17_41 rfl rfl ?_
        refine zn_iast hB zd17_42 rfl rfl (by omega) (by omega) ?_
        refine zn_ald hB zd17_43 rfl rfl rfl ?_
        refine zn_getr hB zd17_44 rfl ?_
        refine zn_getr hB zd17_47 rfl ?_
        refine zn_ild hB zd17_50 rfl rfl ?_
        refine zn_ild hB zd17_51 rfl rfl ?_
        refine zn_iast hB zd17_52 rfl rfl (by omega) (by omega) ?_
        refine zn_con hB zd17_53 rfl ?_
        exact hret _ _ _ _ _ zd17_54 (by constructor <;> decide) ⟨rfl, by unfold zs_walk; rw [if_pos ⟨hi, hc, hr⟩], zn_up wc i c, zn_up wr i r, rfl, zs_up hr4 (by omega) (by omega), zs_up hr5 (by omega) (by omega)⟩
      · refine zn_con hB zd17_31 rfl ?_
        exact hret _ _ _ _ _ zd17_32 (by constructor <;> decide) ⟨rfl, by unfold zs_walk; rw [if_neg (by intro h; obtain ⟨h1, h2, h3⟩ := h; omega)], wc, wr, rfl, hr4, hr5⟩
end ZSX
