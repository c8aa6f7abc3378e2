/-! What is seen from a place: the same set on both sides. -/
/-- the set of the stars that are seen -/
def yv_is (L : zLW) (tS t h u cl sc sr : Int) (co ro br : Int → Int) (x y s : Int) : Prop := z24 s ∧ ∀ j : Nat, zb s j = (decide (j < 24) && (zb t j && yv_see L tS h u cl sc sr co ro br x y j))
theorem yv_is_eq {L : zLW} {tS t h u cl sc sr : Int} {co ro br : Int → Int} {x y s s2 : Int} (a : yv_is L tS t h u cl sc sr co ro br x y s) (b : yv_is L tS t h u cl sc sr co ro br x y s2) : s = s2 := z24_ext a.1 b.1 fun j _ => by rw [a.2, b.2]
section YVL
variable {L : zLW} {K V kd fr hf to C mk mf mh mt : Int → Int} {nc tS tL sP lP mc : Int} {t h u cl sc sr ch x y : Int} {co ro br wc wr m : Int → Int}
theorem yx_look_l (R : yl_R L K V nc tS tL sP lP kd fr hf to mc C mk mf mh mt) (k : yk_sky t h u cl sc sr ch co ro br wc wr m) (x1 : 0 ≤ x) (x2 : x ≤ 23) (y1 : 0 ≤ y) (y2 : y ≤ 11) : ∀ (d n0 : Nat) (s as ho f : Int) (g S : Int → Int) (n : Nat), n0 + d = 24 → d < n → z24 s → (∀ j : Nat, zb s j = (decide (j < n0) && (zb t j && yv_see L tS h u cl sc sr co ro br x y j))) → yv_ba h u x y g → yv_ca L sP h u co ro br as ho →
    ∃ s' as' ho' a' g' S', zf_View_look_l0 x y h t sc sr cl tS nc sP co ro br kd hf to K V n (n0 : Int) s as ho f g S = some (s', as', ho', a', g', S') ∧ yv_is L tS t h u cl sc sr co ro br x y s' ∧ yv_ba h u x y g' ∧ yv_ca L sP h u co ro br as' ho' := by
  intro d
  induction d with
  | zero =>
    intro n0 s as ho f g S n e hn hz hs hg hc
    obtain ⟨n, rfl⟩ : ∃ q, n = q + 1 := ⟨n - 1, by omega⟩
    refine ⟨s, as, ho, f, g, S, ?_, ⟨hz, fun j => by rw [hs, show n0 = 24 by omega]⟩, hg, hc⟩
    show zf_View_look_l0_b x y h t sc sr cl tS nc sP co ro br kd hf to K V (zf_View_look_l0 x y h t sc sr cl tS nc sP co ro br kd hf to K V n) (n0 : Int) s as ho f g S = _
    unfold zf_View_look_l0_b
    rw [if_neg (by omega)]
  | succ d ih =>
    intro n0 s as ho f g S n e hn hz hs hg hc
    obtain ⟨n, rfl⟩ : ∃ q, n = q + 1 := ⟨n - 1, by omega⟩
    obtain ⟨⟨ht, -⟩, ⟨⟨h1, h2⟩, -⟩, -, ⟨hcl, -⟩, -, -, -, ki⟩ := id k
    obtain ⟨⟨⟨c1, c2⟩, ⟨r1, r2⟩, -⟩, -⟩ := ki (n0 : Int) (by omega) (by omega)
    obtain ⟨as', ho', a', g', S', e1, hg', hc'⟩ := yx_sees (t := t) (cl := cl) (sc := sc) (sr := sr) (f13 := f) (S := S) R ht hcl h1 h2 (show 0 ≤ (n0 : Int) by omega) (by omega) c1 c2 r1 r2 x1 x2 y1 y2 hg hc
    show ∃ s' as' ho' a' g' S', zf_View_look_l0_b x y h t sc sr cl tS nc sP co ro br kd hf to K V (zf_View_look_l0 x y h t sc sr cl tS nc sP co ro br kd hf to K V n) (n0 : Int) s as ho f g S = _ ∧ _
    unfold zf_View_look_l0_b
    rw [if_pos (by omega), e1, zl_b, zi_w_id (x := (n0 : Int) + 1) (by omega) (by omega)]
    have grow := zb_grow (s := s) (i := (n0 : Int)) (n := n0) (P := fun j => (zb t j && yv_see L tS h u cl sc sr co ro br x y j)) rfl (by omega) hs
    rw [show ((n0 : Int)).toNat = n0 by omega]
    by_cases hp : (zb t n0 && yv_see L tS h u cl sc sr co ro br x y n0) = true
    · rw [if_pos hp] at grow ⊢
      rw [if_neg (show ¬ (1 : Int) = 0 by decide)]
      exact ih (n0 + 1) _ as' ho' a' g' S' n (by omega) (by omega) (z24_or hz (z24_shl (by omega) (by omega))) grow hg' hc'
    · rw [if_neg hp] at grow ⊢
      rw [if_pos rfl]
      exact ih (n0 + 1) s as' ho' a' g' S' n (by omega) (by omega) hz grow hg' hc'
theorem yx_look (R : yl_R L K V nc tS tL sP lP kd fr hf to mc C mk mf mh mt) (k : yk_sky t h u cl sc sr ch co ro br wc wr m) (x1 : 0 ≤ x) (x2 : x ≤ 23) (y1 : 0 ≤ y) (y2 : y ≤ 11) {f2 f3 f6 as ho f : Int} {g S : Int → Int} (hc : yv_ca L sP h u co ro br as ho) :
    ∃ s' as' ho' a' g' S', zf_View_look x y f2 f3 h u f6 t sc sr cl tS as ho nc f sP g co ro br kd hf to K S V = some (x, y, s', as', ho', a', g', S') ∧ yv_is L tS t h u cl sc sr co ro br x y s' ∧ yv_ca L sP h u co ro br as' ho' := by
  obtain ⟨g1, eg, hg⟩ := ze_goTo (x := x) (y := y) (f0 := f2) (f1 := f3) (h := h) (u := u) (g := g)
  obtain ⟨s', as', ho', a', g', S', e1, e2, -, e4⟩ := yx_look_l R k x1 x2 y1 y2 24 0 0 as ho f g1 S zi_fu rfl (by decide) z24_0 (fun j => by rw [zb_0, decide_eq_false (by omega), Bool.false_and]) hg hc
  refine ⟨s', as', ho', a', g', S', ?_, e2, e4⟩
  unfold zf_View_look
  rw [eg, zl_b]
  show ((zf_View_look_l0 x y h t sc sr cl tS nc sP co ro br kd hf to K V zi_fu 0 0 as ho f g1 S).bind _) = _
  rw [show zf_View_look_l0 x y h t sc sr cl tS nc sP co ro br kd hf to K V zi_fu 0 0 as ho f g1 S = _ from e1, zl_b]
theorem ym_seenFrom_l (R : yl_R L K V nc tS tL sP lP kd fr hf to mc C mk mf mh mt) (k : yk_sky t h u cl sc sr ch co ro br wc wr m) (x1 : 0 ≤ x) (x2 : x ≤ 23) (y1 : 0 ≤ y) (y2 : y ≤ 11) : ∀ (d n0 : Nat) (s : Int) (g S : Int → Int) (n : Nat), n0 + d = 24 → d < n → z24 s → (∀ j : Nat, zb s j = (decide (j < n0) && (zb t j && yv_see L tS h u cl sc sr co ro br x y j))) →
    ∃ s' g' S', zf_M_seenFrom_l0 (24 * y + x) mc m mk mh mt C n s (n0 : Int) g S = some (s', g', S') ∧ yv_is L tS t h u cl sc sr co ro br x y s' := by
  intro d
  induction d with
  | zero =>
    intro n0 s g S n e hn hz hs
    obtain ⟨n, rfl⟩ : ∃ q, n = q + 1 := ⟨n - 1, by omega⟩
    refine ⟨s, g, S, ?_, ⟨hz, fun j => by rw [hs, show n0 = 24 by omega]⟩⟩
    show zf_M_seenFrom_l0_b (24 * y + x) mc m mk mh mt C (zf_M_seenFrom_l0 (24 * y + x) mc m mk mh mt C n) s (n0 : Int) g S = _
    unfold zf_M_seenFrom_l0_b
    rw [if_neg (by omega)]
  | succ d ih =>
    intro n0 s g S n e hn hz hs
    obtain ⟨n, rfl⟩ : ∃ q, n = q + 1 := ⟨n - 1, by omega⟩
    obtain ⟨⟨ht, k126⟩, -⟩ := id k
    have tin : 0 ≤ t ∧ t ≤ 2147483647 := ⟨ht.1, by have := ht.2; omega⟩
    have grow := zb_grow (s := s) (i := (n0 : Int)) (n := n0) (P := fun j => (zb t j && yv_see L tS h u cl sc sr co ro br x y j)) rfl (by omega) hs
    have en : ((n0 : Int)).toNat = n0 := by omega
    show ∃ s' g' S', zf_M_seenFrom_l0_b (24 * y + x) mc m mk mh mt C (zf_M_seenFrom_l0 (24 * y + x) mc m mk mh mt C n) s (n0 : Int) g S = _ ∧ _
    unfold zf_M_seenFrom_l0_b
    rw [if_pos (by omega), ze_M_isTold (by rw [k126]; exact tin.1) (by rw [k126]; exact tin.2), zl_b, k126, zi_w_id (x := (n0 : Int) + 1) (by omega) (by omega)]
    by_cases hti : zb t n0 = true
    · rw [zs_has1 tin.1 tin.2 (by omega) (by omega) (by rw [en]; exact hti), if_neg (show ¬ (1 : Int) = 0 by decide)]
      obtain ⟨g', S', e1⟩ := ym_isSeen (g := g) (S := S) R k (show 0 ≤ (n0 : Int) by omega) (by omega) (by rw [en]; exact hti) x1 x2 y1 y2
      rw [e1, zl_b]
      rw [hti, Bool.true_and] at grow
      by_cases hp : yv_see L tS h u cl sc sr co ro br x y n0 = true
      · rw [if_pos hp] at grow ⊢
        rw [if_neg (show ¬ (1 : Int) = 0 by decide)]
        exact ih (n0 + 1) _ g' S' n (by omega) (by omega) (z24_or hz (z24_shl (by omega) (by omega))) grow
      · rw [if_neg hp] at grow ⊢
        rw [if_pos rfl]
        exact ih (n0 + 1) s g' S' n (by omega) (by omega) hz grow
    · rw [zs_has0 tin.1 tin.2 (by rw [en]; exact hti), if_pos rfl]
      rw [Bool.eq_false_iff.mpr hti, Bool.false_and, if_neg (by decide)] at grow
      exact ih (n0 + 1) s g S n (by omega) (by omega) hz grow
theorem ym_seenFrom (R : yl_R L K V nc tS tL sP lP kd fr hf to mc C mk mf mh mt) (k : yk_sky t h u cl sc sr ch co ro br wc wr m) (x1 : 0 ≤ x) (x2 : x ≤ 23) (y1 : 0 ≤ y) (y2 : y ≤ 11) {g S : Int → Int} :
    ∃ s' g' S', zf_M_seenFrom (24 * y + x) mc m mk g mh mt C S = some (s', g', S') ∧ yv_is L tS t h u cl sc sr co ro br x y s' := by
  obtain ⟨s', g', S', e1, e2⟩ := ym_seenFrom_l R k x1 x2 y1 y2 24 0 0 g S zi_fu rfl (by decide) z24_0 (fun j => by rw [zb_0, decide_eq_false (by omega), Bool.false_and])
  refine ⟨s', g', S', ?_, e2⟩
  unfold zf_M_seenFrom
  rw [show zf_M_seenFrom_l0 (24 * y + x) mc m mk mh mt C zi_fu 0 0 g S = _ from e1, zl_b]
theorem yv_ca0 {ho : Int} : yv_ca L sP h u co ro br 0 ho := fun j _ hb => by rw [zb_0] at hb; cases hb
end YVL
