/-! The reference's reader of conditions, third part. -/
section ZKD3
variable {T M : Int → Int} {len : Int}
theorem ze_jumps {x k m p : Int} {W D : Int → Int} (k1 : 0 ≤ k) (k2 : k < 220) (m1 : 0 ≤ m) (m2 : m < 220) (p1 : 0 ≤ p) (p2 : p ≤ 220) (x1 : 0 ≤ x) (x2 : x ≤ 14) : zf_M_jumps x k m p W D = some (k + 1, m + 1, p + 1, zv_up W k (1048576 * x + m), zv_up D m (1048576 * x + 0)) := by
  unfold zf_M_jumps
  rw [zl_ci k1 (by omega), ze_notes m1 m2 x1 x2 (by decide) (by decide), zl_b, zi_w_id (x := k + 1) (by omega) (by omega), zi_w_id (x := p + 1) (by omega) (by omega), zi_w_id (x := 1048576 * x) (by omega) (by omega), zi_w_id (x := 1048576 * x + m) (by omega) (by omega)]
theorem ys_cond_l (hT : yk_T T M) (hl : len ≤ 200) : ∀ (B N : Nat), N ≤ B → B < 2000 → ∀ (w : zWT) (o p : Int) (c : zCD) (k f m num : Int) (W D : Int → Int) (r : Int ⊕ (Int × zCD)) (n : Nat), yp_C T len N true w o p c = some r → yk_cst len w c k p o m W D → o ≤ 6 → N < n →
    zh_ok (zf_M_readsCondition_l0 len M n p o k f m num W D) (fun t => Sum.elim (fun e => r = .inl (-1000 - e.1) ∧ 0 ≤ e.1 ∧ e.1 ≤ len) (fun t => (t.1 = 0 ∧ r = .inl t.2.2.2.2.1) ∨ (t.1 = 1 ∧ ∃ c', r = .inr (t.2.1, c') ∧ yk_c c' t.2.2.2.2.2.1 t.2.2.2.2.2.2.2.2 ∧ (0 ≤ t.2.1 ∧ t.2.1 ≤ len) ∧ c'.1 ≤ t.2.1)) t) := by
  intro B
  induction B with
  | zero =>
    intro N hN _ w o p c k f m num W D r n h
    obtain rfl : N = 0 := by omega
    exact zl_ns h
  | succ B ih =>
    intro N hN hB w o p c k f m num W D r n h hs o6 hn
    obtain ⟨N, rfl⟩ : ∃ q, N = q + 1 := by
      cases N with
      | zero => exact zl_ns h
      | succ q => exact ⟨q, rfl⟩
    obtain ⟨n, rfl⟩ : ∃ q, n = q + 1 := ⟨n - 1, by omega⟩
    have fu : 1000000 < zi_fu := by decide
    have hs0 := hs
    obtain ⟨s1, s2, s3, s4, ⟨s5, s6⟩, s7, s8, s9⟩ := hs
    have n1 := yk_nn0 w
    have n2 := yk_no0 w
    have hk := yk_v_le s1
    obtain ⟨me, m0⟩ := s2.1
    have opn : ∀ x, (x = 10 ∨ x = 13) → yp_pk T len p ≠ -1 → (if o = 6 then some (.inl (-5000 - p)) else yp_C T len N true ((x, 0) :: w) (o + 1) (p + 1) c) = some r →
        zh_ok ((zf_M_opens x o k p f W).bind fun r11 => (if r11.1 = 0 then (some (.inr (0, r11.2.2.2.1, r11.2.1, r11.2.2.1, r11.2.2.2.2.1, m, num, r11.2.2.2.2.2, D))) else (zf_M_readsCondition_l0 len M n r11.2.2.2.1 r11.2.1 r11.2.2.1 r11.2.2.2.2.1 m num r11.2.2.2.2.2 D)))
        (fun t => Sum.elim (fun e => r = .inl (-1000 - e.1) ∧ 0 ≤ e.1 ∧ e.1 ≤ len) (fun t => (t.1 = 0 ∧ r = .inl t.2.2.2.2.1) ∨ (t.1 = 1 ∧ ∃ c', r = .inr (t.2.1, c') ∧ yk_c c' t.2.2.2.2.2.1 t.2.2.2.2.2.2.2.2 ∧ (0 ≤ t.2.1 ∧ t.2.1 ≤ len) ∧ c'.1 ≤ t.2.1)) t) := by
      intro x hx hp h
      have hp := yp_pk_lt hp
      by_cases ho : o = 6
      · rw [if_pos ho] at h
        cases h
        rw [ze_opens6 ho s5 (by omega), zl_b]
        show zh_ok (if (0 : Int) = 0 then _ else _) _
        rw [if_pos rfl]
        exact zh_ret (Or.inl ⟨rfl, rfl⟩)
      · rw [if_neg ho] at h
        rw [ze_opens ho (by omega) (by omega) s5 (by omega) (by omega) (by omega) (by omega) (by omega), zl_b]
        show zh_ok (if (1 : Int) = 0 then _ else _) _
        rw [if_neg (by decide)]
        refine ih N (by omega) (by omega) ((x, 0) :: w) (o + 1) (p + 1) c (k + 1) f m num (zv_up W k (1048576 * x)) D r n h ⟨⟨?_, ?_, ⟨(show (0 : Int) ≤ 0 by decide), (show (0 : Int) < 200 by decide)⟩, ?_⟩, s2, fun y hy hh => ?_, ?_, ⟨by omega, by omega⟩, by omega, ?_, Or.inr s9⟩ (by omega) (by omega)
        · rw [show k + 1 - 1 = k by omega, zv_up_s]
          show 1048576 * x = 1048576 * x + 0; omega
        · show 10 ≤ x ∧ x ≤ 13; omega
        · rw [show k + 1 - 1 = k by omega]
          exact yk_v_up s1 fun j hj => zv_up_n (by omega)
        · rcases List.mem_cons.mp hy with e | e
          · rw [e] at hh
            have hh : x = 11 ∨ x = 12 := hh
            omega
          · exact s3 y e hh
        · show o + 1 = (if x = 10 ∨ x = 13 then 1 else 0) + yk_no w
          rw [if_pos hx]; omega
        · show c.1 + ((if x = 10 then 1 else 0) + yk_nn w) ≤ p + 1
          split <;> omega
    show zh_ok (zf_M_readsCondition_l0_b len M (zf_M_readsCondition_l0 len M n) p o k f m num W D) _
    unfold zf_M_readsCondition_l0_b
    have hh := ze_here hT s5 (show len ≤ 220 by omega)
    rw [hh, zl_b]
    by_cases h33 : yp_pk T len p = 33
    · rw [if_pos h33, zl_b, if_pos h33]
      rw [yp_C_t, if_pos h33] at h
      exact opn 10 (Or.inl rfl) (by omega) h
    rw [if_neg h33, zl_b]
    by_cases h40 : yp_pk T len p = 40
    · rw [if_pos h40, zl_b, if_neg h33]
      rw [yp_C_t, if_neg h33, if_pos h40] at h
      exact opn 13 (Or.inr rfl) (by omega) h
    rw [if_neg h40]
    refine zh_bind (ys_comp hT hl h h33 h40 hs0 o6 (by omega)) fun t ht => ?_
    rcases ht with ⟨t1, t2⟩ | ⟨t1, N', w', c', a1, a2, a3, a4, a5⟩
    · rw [if_pos t1]
      exact zh_ret (Or.inl ⟨rfl, t2⟩)
    · rw [if_neg (by omega)]
      refine zh_bind (ys_close hT hl B N' (by omega) (by omega) w' _ _ c' _ _ _ r zi_fu a2 a3 a5 a4 (by omega)) fun u hu => ?_
      cases u with
      | inr e =>
        obtain ⟨b1, b2⟩ := hu
        exact zh_ret (Or.inr ⟨b1, b2⟩)
      | inl e =>
        obtain ⟨N2, w2, c2, b1, b2, b3, b4, b5, b6⟩ := hu
        obtain ⟨s1, s2, s3, s4, ⟨s5, s6⟩, s7, s8, s9⟩ := b6
        have n1 := yk_nn0 w2
        have n2 := yk_no0 w2
        have hk := yk_v_le s1
        obtain ⟨me, m0⟩ := s2.1
        obtain ⟨N2, rfl⟩ : ∃ q, N2 = q + 1 := by
          cases N2 with
          | zero => exact zl_ns b2
          | succ q => exact ⟨q, rfl⟩
        rw [yp_C_f, if_neg b3, if_neg b4] at b2
        have hh := ze_here hT s5 (show len ≤ 220 by omega)
        show zh_ok ((zf_M_here e.1 len M).bind _) _
        have go : ∀ all a x kk, ((a = 0 ∧ all = false) ∨ (a = 1 ∧ all = true)) → (x = 11 ∧ yp_pk T len e.1 = 38 ∨ x = 12 ∧ yp_pk T len e.1 ≠ 38) → x = zd_op kk → (kk = 3 ∨ kk = 4) → yp_pk T len e.1 ≠ -1 → yp_C T len N2 true ((x, (yp_la all w2 c2).2.1) :: (yp_la all w2 c2).1) e.2.1 (e.1 + 1) (yp_em kk 0 (yp_la all w2 c2).2) = some r →
            zh_ok ((zf_M_lands a e.2.2.1 e.2.2.2.1 t.2.2.2.2.2.2.2.1 e.2.2.2.2).bind fun r28 => ((some (yp_pk T len e.1)).bind fun r29 => (if r29 = 38 then ((zf_M_jumps 11 r28.1 e.2.2.2.1 e.1 t.2.2.2.2.2.2.2.1 r28.2).bind fun r32 => (zf_M_readsCondition_l0 len M n r32.2.2.1 e.2.1 r32.1 t.2.2.2.2.1 r32.2.1 t.2.2.2.2.2.2.1 r32.2.2.2.1 r32.2.2.2.2)) else ((zf_M_jumps 12 r28.1 e.2.2.2.1 e.1 t.2.2.2.2.2.2.2.1 r28.2).bind fun r31 => (zf_M_readsCondition_l0 len M n r31.2.2.1 e.2.1 r31.1 t.2.2.2.2.1 r31.2.1 t.2.2.2.2.2.2.1 r31.2.2.2.1 r31.2.2.2.2)))))
            (fun t => Sum.elim (fun e => r = .inl (-1000 - e.1) ∧ 0 ≤ e.1 ∧ e.1 ≤ len) (fun t => (t.1 = 0 ∧ r = .inl t.2.2.2.2.1) ∨ (t.1 = 1 ∧ ∃ c', r = .inr (t.2.1, c') ∧ yk_c c' t.2.2.2.2.2.1 t.2.2.2.2.2.2.2.2 ∧ (0 ≤ t.2.1 ∧ t.2.1 ≤ len) ∧ c'.1 ≤ t.2.1)) t) := by
          intro all a x kk ha hx hxk hkk hp h
          have hp := yp_pk_lt hp
          unfold zf_M_lands
          obtain ⟨z, ez, z1, z2, z3⟩ := yk_lands ha w2 c2 e.2.2.1 e.2.2.2.1 e.2.2.2.2 zi_fu s1 (by omega) s2 s3 (by omega) (by omega)
          obtain ⟨l1, l2, l3, l4⟩ := yp_la_1 (all := all) w2 c2
          have hz := yk_v_le z1
          have hbt := yk_bt_la (all := all) w2 c2 s9
          rw [ez, zl_b, zl_b, zl_b]
          have ej : ∀ y, (y = 11 ∨ y = 12) → zf_M_jumps y z.1 e.2.2.2.1 e.1 t.2.2.2.2.2.2.2.1 z.2 = some (z.1 + 1, e.2.2.2.1 + 1, e.1 + 1, zv_up t.2.2.2.2.2.2.2.1 z.1 (1048576 * y + e.2.2.2.1), zv_up z.2 e.2.2.2.1 (1048576 * y + 0)) := fun y hy => ze_jumps (by omega) (by omega) (by omega) (by omega) s5 (by omega) (by omega) (by omega)
          rw [ej 11 (Or.inl rfl), ej 12 (Or.inr rfl), zl_b, zl_b]
          have hx2 : x = 11 ∨ x = 12 := by omega
          have hc2 := yk_c_em (kk := kk) (v := 0) z2 (by omega) (by omega) (by decide) (by decide)
          rw [← hxk] at hc2
          have gox : zh_ok (zf_M_readsCondition_l0 len M n (e.1 + 1) e.2.1 (z.1 + 1) t.2.2.2.2.1 (e.2.2.2.1 + 1) t.2.2.2.2.2.2.1 (zv_up t.2.2.2.2.2.2.2.1 z.1 (1048576 * x + e.2.2.2.1)) (zv_up z.2 e.2.2.2.1 (1048576 * x + 0))) (fun t => Sum.elim (fun e => r = .inl (-1000 - e.1) ∧ 0 ≤ e.1 ∧ e.1 ≤ len) (fun t => (t.1 = 0 ∧ r = .inl t.2.2.2.2.1) ∨ (t.1 = 1 ∧ ∃ c', r = .inr (t.2.1, c') ∧ yk_c c' t.2.2.2.2.2.1 t.2.2.2.2.2.2.2.2 ∧ (0 ≤ t.2.1 ∧ t.2.1 ≤ len) ∧ c'.1 ≤ t.2.1)) t) := by
           refine ih N2 (by omega) (by omega) _ e.2.1 (e.1 + 1) _ (z.1 + 1) t.2.2.2.2.1 (e.2.2.2.1 + 1) t.2.2.2.2.2.2.1 (zv_up t.2.2.2.2.2.2.2.1 z.1 (1048576 * x + e.2.2.2.1)) (zv_up z.2 e.2.2.2.1 (1048576 * x + 0)) r n h ⟨⟨?_, ?_, ⟨?_, ?_⟩, ?_⟩, hc2, fun y hy hh => ?_, ?_, ⟨by omega, by omega⟩, by omega, ?_, Or.inr hbt⟩ b5 (by omega)
           · rw [show z.1 + 1 - 1 = z.1 by omega, zv_up_s]
             show _ = 1048576 * x + (yp_la all w2 c2).2.1
             rw [l1]; omega
           · show 10 ≤ x ∧ x ≤ 13; omega
           · show 0 ≤ (yp_la all w2 c2).2.1; omega
           · show (yp_la all w2 c2).2.1 < 200; omega
           · rw [show z.1 + 1 - 1 = z.1 by omega]
             exact yk_v_up z1 fun j hj => zv_up_n (by omega)
           · rcases List.mem_cons.mp hy with q | q
             · rw [q]
               show (yp_la all w2 c2).2.1 < (yp_la all w2 c2).2.1 + 1; omega
             · have := z3 y q hh
               show y.2 < (yp_la all w2 c2).2.1 + 1; omega
           · show e.2.1 = (if x = 10 ∨ x = 13 then 1 else 0) + yk_no (yp_la all w2 c2).1
             rw [if_neg (by omega), l3]; omega
           · show (yp_la all w2 c2).2.1 + 1 + ((if x = 10 then 1 else 0) + yk_nn (yp_la all w2 c2).1) ≤ e.1 + 1
             rw [if_neg (by omega), l2, l1]; omega
          rcases hx with ⟨e1, e2⟩ | ⟨e1, e2⟩
          · rw [if_pos e2]
            rw [e1] at gox
            exact gox
          · rw [if_neg e2]
            rw [e1] at gox
            exact gox
        rw [hh, zl_b]
        by_cases h38 : yp_pk T len e.1 = 38
        · rw [if_pos h38] at b2
          rw [if_pos h38, zl_b, if_neg (by omega)]
          exact go false 0 11 4 (Or.inl ⟨rfl, rfl⟩) (Or.inl ⟨rfl, h38⟩) rfl (Or.inr rfl) (by omega) b2
        rw [if_neg h38] at b2
        rw [if_neg h38, zl_b]
        by_cases h124 : yp_pk T len e.1 = 124
        · rw [if_pos h124] at b2
          rw [if_pos h124, zl_b, if_pos h124]
          exact go true 1 12 3 (Or.inr ⟨rfl, rfl⟩) (Or.inr ⟨rfl, h38⟩) rfl (Or.inl rfl) (by omega) b2
        rw [if_neg h124] at b2
        rw [if_neg h124]
        cases b2
        exact zh_ret ⟨rfl, s5, s6⟩
/-- the whole C, its ( and ) as well -/
theorem ys_cond (hT : yk_T T M) (hl : len ≤ 200) {N : Nat} {p : Int} {c : zCD} {f m num : Int} {o k : Int} {W D : Int → Int} {r : Int ⊕ (Int × zCD)} (h40 : yp_pk T len p = 40) (h : yp_C T len N true [(13, 0)] 1 (p + 1) c = some r) (hN : N < 2000) (hc : yk_c c m D) (p1 : 0 ≤ p) (cp : c.1 ≤ p) :
    zh_ok (zf_M_readsCondition p len o k f m num M W D) (fun t => (t.1 = 0 ∧ r = .inl t.2.2.2.2.1) ∨ (t.1 = 1 ∧ ∃ c', r = .inr (t.2.1, c') ∧ yk_c c' t.2.2.2.2.2.1 t.2.2.2.2.2.2.2.2 ∧ (0 ≤ t.2.1 ∧ t.2.1 ≤ len) ∧ c'.1 ≤ t.2.1)) := by
  have fu : 1000000 < zi_fu := by decide
  have hp : p < len := yp_pk_lt (T := T) (by omega)
  unfold zf_M_readsCondition
  rw [ze_here hT p1 (by omega), zl_b, if_pos h40, ze_opens (by decide) (by decide) (by decide) p1 (by omega) (by decide) (by decide) (by decide) (by decide), zl_b]
  show zh_ok (if (1 : Int) = 0 then _ else _) _
  rw [if_neg (by decide)]
  refine zh_bind (ys_cond_l hT hl 1999 N (by omega) (by decide) [(13, 0)] 1 (p + 1) c 1 f m num (zv_up W 0 (1048576 * 13)) D r zi_fu h ⟨⟨?_, ⟨by decide, by decide⟩, ⟨by decide, by decide⟩, rfl⟩, hc, fun y hy hh => ?_, rfl, ⟨by omega, by omega⟩, by omega, ?_, Or.inl ⟨rfl, rfl⟩⟩ (by decide) (by omega)) fun t ht => ?_
  · exact zv_up_s
  · rcases List.mem_cons.mp hy with e | e
    · subst e
      have hh : (13 : Int) = 11 ∨ (13 : Int) = 12 := hh
      omega
    · cases e
  · show c.1 + ((if (13 : Int) = 10 then 1 else 0) + 0) ≤ p + 1
    rw [if_neg (by decide)]; omega
  · cases t with
    | inr e => exact zh_ret ht
    | inl e =>
      obtain ⟨a1, a2, a3⟩ := ht
      simp only [Sum.elim_inl]
      rw [ze_wrong a2 (by omega) (by decide) (by decide), zl_b]
      exact zh_ret (Or.inl ⟨rfl, a1⟩)
theorem ys_condN (hT : yk_T T M) (hl : len ≤ 200) {p : Int} {f m num : Int} {o k : Int} {W D : Int → Int} (h40 : yp_pk T len p ≠ 40) (p1 : 0 ≤ p) (p2 : p ≤ len) : zf_M_readsCondition p len o k f m num M W D = some (0, p, o, k, -1000 - p, m, num, W, D) := by
  unfold zf_M_readsCondition
  rw [ze_here hT p1 (by omega), zl_b, if_neg h40, ze_wrong p1 (by omega) (by decide) (by decide), zl_b]
  rfl
end ZKD3
