/-! The heads. -/
section ZHEADS
variable {OB : Nat → Nat} {D : va_G} {DA : Nat → ClassId} {sz : Nat} {T : zTp} {H0 H : Heap} {env0 env : List Value} {nL : Nat} {locs : List Loc} {ls : Array Slot} {stk : List Value}
theorem z_first (hs : z_sat OB D DA z_cl z_TYs z_PH sz none false (fun _ => none) H0 env0 nL z_hdF T H locs env ls stk) : ∃ OB2 T2, (∀ n, n < 10 → OB2 n = OB n) ∧ z_sat OB2 D DA z_cl z_TYs z_PH sz none false (fun _ => none) H0 env0 nL z_hd T2 H locs env ls stk := zu_first (ph := 3) (tA := 241) (uA := 242) (tB := 129) (uB := 199) (s0 := 5) (s1 := 11) (n0 := 87) (n1 := 88) (n2 := 89) (S := 130) (K := 136) (NW := 200) (KA := 202) (by decide +kernel) rfl rfl (by decide +kernel) (by decide +kernel) rfl rfl rfl rfl (by decide +kernel) (by decide +kernel) (by decide +kernel) (by decide) (by decide) (by decide) rfl rfl rfl rfl rfl rfl rfl rfl rfl rfl rfl rfl rfl rfl (by decide +kernel) rfl (by decide +kernel) rfl rfl rfl rfl (by decide) (by intro q hq; simp only [zc_CL, List.mem_cons, List.not_mem_nil, or_false] at hq; rcases hq with rfl | rfl | rfl | rfl | rfl | rfl | rfl | rfl | rfl | rfl | rfl | rfl | rfl | rfl | rfl | rfl | rfl | rfl | rfl | rfl | rfl | rfl | rfl | rfl | rfl | rfl | rfl | rfl | rfl | rfl | rfl | rfl | rfl | rfl <;> simp) hs
theorem z_again {xs : Nat → Int32} {i : Nat} (hs : z_sat OB D DA z_cl z_TYs z_PH sz none false (fun _ => none) H0 env0 nL z_hd T H locs env ls stk) : z_sat (zu_new z_f xs OB i) D DA z_cl z_TYs z_PH sz none false (fun _ => none) H0 env0 nL z_hd T H locs env ls stk := zu_reb0 (by decide) (by decide) (by decide) zu_new_lo (by decide +kernel) (by decide +kernel) hs
theorem z_back0 (hs : z_sat OB D DA z_cl z_TYs z_PH sz none false (fun _ => none) H0 env0 nL (zu_head 3072 (129, 43489) 244 248) T H locs env ls stk) : ∃ T2, z_sat (fun n => OB (zu_sg 0 n)) D DA z_cl z_TYs z_PH sz none false (fun _ => none) H0 env0 nL z_hd T2 H locs env ls stk := zu_reb (OB := OB) (tA := 244) (uA := 248) (tB := 129) (uB := 199) (OB2 := fun n => OB (zu_sg 0 n)) (by decide) (by decide) (by decide) (by decide) (by decide) (fun n hn => congrArg OB (zu_sg_lo n hn)) rfl rfl (by decide +kernel) (fun h1 h2 h3 h4 => zu_cl (sg := zu_sg 0) (by decide +kernel) (fun n hn => congrArg OB (zu_sg_lo n hn)) (fun _ _ => rfl) h1 h2 h3 h4) hs
theorem z_back1 (hs : z_sat OB D DA z_cl z_TYs z_PH sz none false (fun _ => none) H0 env0 nL (zu_head 3072 (129, 43489) 245 249) T H locs env ls stk) : ∃ T2, z_sat (fun n => OB (zu_sg 1 n)) D DA z_cl z_TYs z_PH sz none false (fun _ => none) H0 env0 nL z_hd T2 H locs env ls stk := zu_reb (OB := OB) (tA := 245) (uA := 249) (tB := 129) (uB := 199) (OB2 := fun n => OB (zu_sg 1 n)) (by decide) (by decide) (by decide) (by decide) (by decide) (fun n hn => congrArg OB (zu_sg_lo n hn)) rfl rfl (by decide +kernel) (fun h1 h2 h3 h4 => zu_cl (sg := zu_sg 1) (by decide +kernel) (fun n hn => congrArg OB (zu_sg_lo n hn)) (fun _ _ => rfl) h1 h2 h3 h4) hs
theorem z_back2 (hs : z_sat OB D DA z_cl z_TYs z_PH sz none false (fun _ => none) H0 env0 nL (zu_head 3072 (129, 43489) 246 250) T H locs env ls stk) : ∃ T2, z_sat (fun n => OB (zu_sg 2 n)) D DA z_cl z_TYs z_PH sz none false (fun _ => none) H0 env0 nL z_hd T2 H locs env ls stk := zu_reb (OB := OB) (tA := 246) (uA := 250) (tB := 129) (uB := 199) (OB2 := fun n => OB (zu_sg 2 n)) (by decide) (by decide) (by decide) (by decide) (by decide) (fun n hn => congrArg OB (zu_sg_lo n hn)) rfl rfl (by decide +kernel) (fun h1 h2 h3 h4 => zu_cl (sg := zu_sg 2) (by decide +kernel) (fun n hn => congrArg OB (zu_sg_lo n hn)) (fun _ _ => rfl) h1 h2 h3 h4) hs
theorem z_back3 (hs : z_sat OB D DA z_cl z_TYs z_PH sz none false (fun _ => none) H0 env0 nL (zu_head 3072 (129, 43489) 247 251) T H locs env ls stk) : ∃ T2, z_sat (fun n => OB (zu_sg 3 n)) D DA z_cl z_TYs z_PH sz none false (fun _ => none) H0 env0 nL z_hd T2 H locs env ls stk := zu_reb (OB := OB) (tA := 247) (uA := 251) (tB := 129) (uB := 199) (OB2 := fun n => OB (zu_sg 3 n)) (by decide) (by decide) (by decide) (by decide) (by decide) (fun n hn => congrArg OB (zu_sg_lo n hn)) rfl rfl (by decide +kernel) (fun h1 h2 h3 h4 => zu_cl (sg := zu_sg 3) (by decide +kernel) (fun n hn => congrArg OB (zu_sg_lo n hn)) (fun _ _ => rfl) h1 h2 h3 h4) hs
theorem z_post {CO : (Nat → Nat) → Prop} (hCO : ∀ OB2 : Nat → Nat, (∀ n, n < 10 → OB2 n = OB n) → CO OB → CO OB2) (hco : CO OB) {hd2 : zS} (h : hd2 ∈ z_HD) (hs : z_sat OB D DA z_cl z_TYs z_PH sz none false (fun _ => none) H0 env0 nL hd2 T H locs env ls stk) : ∃ OB2 T2, CO OB2 ∧ z_sat OB2 D DA z_cl z_TYs z_PH sz none false (fun _ => none) H0 env0 nL z_hd T2 H locs env ls stk := by
  rcases List.mem_cons.mp h with rfl | h
  · exact ⟨OB, T, hco, hs⟩
  rcases List.mem_cons.mp h with rfl | h
  · obtain ⟨T2, h2⟩ := z_back0 hs
    exact ⟨_, T2, hCO _ (fun n hn => congrArg OB (zu_sg_lo n (by omega))) hco, h2⟩
  rcases List.mem_cons.mp h with rfl | h
  · obtain ⟨T2, h2⟩ := z_back1 hs
    exact ⟨_, T2, hCO _ (fun n hn => congrArg OB (zu_sg_lo n (by omega))) hco, h2⟩
  rcases List.mem_cons.mp h with rfl | h
  · obtain ⟨T2, h2⟩ := z_back2 hs
    exact ⟨_, T2, hCO _ (fun n hn => congrArg OB (zu_sg_lo n (by omega))) hco, h2⟩
  rcases List.mem_cons.mp h with rfl | h
  · obtain ⟨T2, h2⟩ := z_back3 hs
    exact ⟨_, T2, hCO _ (fun n hn => congrArg OB (zu_sg_lo n (by omega))) hco, h2⟩
  cases h
end ZHEADS
theorem z_known {l : Launch} {OB : Nat → Nat} {D : va_G} {DA : Nat → ClassId} {sz : Nat} {xs : Nat → Int32} {i : Nat} (hpr : zu_PRO z_f xs OB i) : ∀ h ∈ z_HC, zu_hand l OB D DA z_cl z_FT z_TYs z_PH sz z_KX z_TB "StarTalesLaw" code xs i h := by
  intro h hh
  unfold z_HC at hh
  rcases List.mem_cons.mp hh with rfl | hh
  · exact zxH0 hpr
  rcases List.mem_cons.mp hh with rfl | hh
  · exact zxH1 hpr
  rcases List.mem_cons.mp hh with rfl | hh
  · exact zxH2 hpr
  rcases List.mem_cons.mp hh with rfl | hh
  · exact zxH3 hpr
  rcases List.mem_cons.mp hh with rfl | hh
  · exact zxH4 hpr
  rcases List.mem_cons.mp hh with rfl | hh
  · exact zxH5 hpr
  rcases List.mem_cons.mp hh with rfl | hh
  · exact zxH6 hpr
  rcases List.mem_cons.mp hh with rfl | hh
  · exact zxH7 hpr
  rcases List.mem_cons.mp hh with rfl | hh
  · exact zxH8 hpr
  rcases List.mem_cons.mp hh with rfl | hh
  · exact zxH9 hpr
  cases hh
theorem z_fb (a b c d : Int) : -2147483648 ≤ z_f a b c d ∧ z_f a b c d ≤ 2147483647 := zq_cnt_b a b c d
