/-! A row is taken over; fields stay. -/
abbrev zyCo : zNL := (2, [], [], [], [(0, 0, 422, 0), (1, 0, 422, 1)])
section ZCOPIES
variable {a b : Int → Int} {Gr : List (Int → Int)}
theorem zd300_0 : decode zxm300.2.1 0 = .ok (.iconst 0, 1) := by decide +kernel
theorem zd300_1 : decode zxm300.2.1 1 = .ok (.istore_n 2, 1) := by decide +kernel
theorem zd300_2 : decode zxm300.2.1 2 = .ok (.iload_n 2, 1) := by decide +kernel
theorem zd300_3 : decode zxm300.2.1 3 = .ok (.sipush 422, 3) := by decide +kernel
theorem zd300_6 : decode zxm300.2.1 6 = .ok (.if_icmp .ge 15, 3) := by decide +kernel
theorem zd300_9 : decode zxm300.2.1 9 = .ok (.aload_n 1, 1) := by decide +kernel
theorem zd300_10 : decode zxm300.2.1 10 = .ok (.iload_n 2, 1) := by decide +kernel
theorem zd300_11 : decode zxm300.2.1 11 = .ok (.aload_n 0, 1) := by decide +kernel
theorem zd300_12 : decode zxm300.2.1 12 = .ok (.iload_n 2, 1) := by decide +kernel
theorem zd300_13 : decode zxm300.2.1 13 = .ok (.iaload, 1) := by decide +kernel
theorem zd300_14 : decode zxm300.2.1 14 = .ok (.iastore, 1) := by decide +kernel
theorem zd300_15 : decode zxm300.2.1 15 = .ok (.iinc 2 1, 3) := by decide +kernel
theorem zd300_18 : decode zxm300.2.1 18 = .ok (.goto (-16), 3) := by decide +kernel
theorem zd300_21 : decode zxm300.2.1 21 = .ok (.return_, 1) := by decide +kernel
theorem zh300  : zn_OK z_TB z_cl z_KX zyCo zxm300 (0, 0) (fun va F G => va = [.inr 0, .inr 1] ∧ G = a :: b :: Gr) (fun va F G r F' G' => F' = F ∧ r = none ∧ ∃ b', G' = a :: b' :: Gr ∧ ∀ j, 0 ≤ j → j < 422 → b' j = a j) := zn_meth (K := zkM) (FT := z_FT) (MT := z_MT) (n := 2) zxp300 (z_ks13 _ (fun _ h => List.mem_cons_of_mem _ h) _ _ _ _ (fun j r h _ => by cases h)) (fun _ _ => zs_KX_p) (by decide +kernel) (fun va F G h => by obtain ⟨rfl, _⟩ := h; rfl) rfl fun good va F G hB hret hvret hP => by
  obtain ⟨rfl, rfl⟩ := hP
  have key : ∀ (m : Nat) (k : Int) (b : Int → Int), 422 - k < m → 0 ≤ k → k ≤ 422 → (∀ j, 0 ≤ j → j < k → b j = a j) → good 2 [.inr 0, .inr 1, .inl k] [] F (a :: b :: Gr) := by
    intro m
    induction m with
    | zero =>
      intro k b c1 c2 c3 c4
      exfalso; omega
    | succ m ih =>
      intro k b c1 c2 c3 c4
      refine zn_ild hB zd300_2 rfl rfl ?_
      refine zn_con hB zd300_3 rfl ?_
      refine zn_cge hB zd300_6 rfl (fun h6 => ?_) (fun h6 => ?_)
      · exact hvret _ _ _ _ zd300_21 trivial ⟨rfl, rfl, b, rfl, fun j j1 j2 => c4 j j1 (by omega)⟩
      · refine zn_ald hB zd300_9 rfl rfl rfl ?_
        refine zn_ild hB zd300_10 rfl rfl ?_
        refine zn_ald hB zd300_11 rfl rfl rfl ?_
        refine zn_ild hB zd300_12 rfl rfl ?_
        refine zn_iald hB zd300_13 rfl rfl (by omega) (by omega) (fun q13 r13 => ?_)
        refine zn_iast hB zd300_14 rfl rfl (by omega) (by omega) ?_
        refine zn_iinc hB zd300_15 rfl rfl (by omega) (by omega) ?_
        refine zn_goto hB zd300_18 rfl ?_
        refine ih _ _ (by omega) (by omega) (by omega) (fun j j1 j2 => ?_)
        by_cases e : j = k
        · rw [e]; exact zn_up_s
        · exact (zn_up_n e).trans (c4 j j1 (by omega))
  refine zn_con hB zd300_0 rfl ?_
  refine zn_ist hB zd300_1 rfl rfl rfl ?_
  exact key 423 0 b (by omega) (by omega) (by omega) (fun j j1 j2 => by omega)
end ZCOPIES
theorem zd319_13 : decode zxm319.2.1 13 = .ok (.invokestatic 134, 3) := by decide +kernel
def zcp_sg (TY : List zTy) (NT : List Nat) : Bool := match NT with
  | [t0, t1] => (match TY[t0]?, TY[t1]? with
    | some (.inr o), some (.inr o2) => o2.2.2.all (fun s => o.2.2.any (fun s1 => Nat.ble s1.1.1 s.1.1 && Nat.ble s.1.2 s1.1.2 && (match s1.2, s.2 with
      | .inl r, .inl w => z_ile w.1 r.1 && z_ile r.2 w.2
      | _, _ => false)))
    | _, _ => false)
  | _ => false
def zcp_hk (TY : List zTy) (NT : List Nat) (g : zSig) : zHk := fun pc st => cond (Nat.beq pc 13) (match z_S st, z_loc (z_L st) 0, NT with
  | [dk, dn], some d0, [t0, t1] => (match z_get (z_V st) dn, z_get (z_V st) dk, z_get (z_V st) d0 with
    | some (.inr (.inl tn)), some (.inr (.inl tk)), some (.inr (.inl _)) => cond ((Nat.beq tn t0 && Nat.beq tk t1) && ((z_X st).isEmpty && (Nat.ble (z_C st).1 (g_mk g).1 && Nat.ble (z_C st).2 (g_mk g).2)) && (z_F st).all (fun q => match z_get (z_V st) q.1 with
      | some (.inr (.inl u)) => (match TY[u]? with
        | some (.inl _) => true
        | _ => false)
      | _ => false)) (some [(16, ([(0, d0)], [], z_n st, z_V st, z_F st, [], z_R st, [], z_C st, z_ph st))]) none
    | _, _, _ => none)
  | _, _, _ => none) none
theorem zcp_walk {good : Nat → List zNV → List zNV → List Int → List (Int → Int) → Prop} {a b : Int → Int} {F : List Int} {L : List zNV} {rm : Nat × Nat} (hrm : 1 ≤ rm.1 ∧ 60 ≤ rm.2) (hB : zn_B z_cl z_FT z_KX z_TB z_MT zyCo zxm319 zkM rm good) (fin : ∀ b', (∀ j, 0 ≤ j → j < 422 → b' j = a j) → good 16 L [] F [a, b']) : good 13 L [.inr 1, .inr 0] F [a, b] := by
  refine zn_it2 hB (zh300 (a := a) (b := b) (Gr := [])) zd319_13 zxt300 ?_ ⟨rfl, rfl⟩ (fun r F' G' hq => ?_)
  · obtain ⟨h1, h2⟩ := hrm
    simp only [Bool.and_eq_true]
    exact ⟨⟨by decide, by decide⟩, Nat.ble_eq_true_of_le (show 0 + 1 ≤ rm.1 by omega), Nat.ble_eq_true_of_le (show 8 + (3 + 11) + 0 ≤ rm.2 by omega)⟩
  · obtain ⟨rfl, rfl, b', rfl, hb⟩ := hq
    exact fin b' hb
theorem zcp_hk_ok {TY : List zTy} {PHI : List (List Nat)} {g : zSig} {NT : List Nat} (hpu : g_pur g = false) (hrm : 1 ≤ (g_rm g).1 ∧ 60 ≤ (g_rm g).2) (hw : zb_wf TY z_cl zyCo NT [.inl 0, .inl 1] = true) (hsg : zcp_sg TY NT = true) (hJ : zb_Jm z_cl TY zyCo NT (fun _ _ => True) (fun _ _ => True)) : z_hok z_TB z_cl TY PHI z_KX zxm319 g (zcp_hk TY NT g) := by
  intro p l e s m args below meth c Q OB D DA sz raw T0 H0 env0 good hg hx hb hml hD hsz hX pc st Lz hL hall
  rw [hpu] at hg
  unfold zcp_hk at hL
  cases hpc : Nat.beq pc 13 with
  | false => rw [hpc] at hL; cases hL
  | true =>
    rw [hpc] at hL
    have hpc := z_beq hpc
    subst hpc
    simp only [cond_true] at hL
    split at hL
    · rename_i dk dn d0 t0 t1 hS hd0
      split at hL
      · rename_i tn tk tm hn hk hm0
        obtain ⟨hck, rfl⟩ := z_cond hL
        simp only [Bool.and_eq_true] at hck
        obtain ⟨⟨⟨k1, k2⟩, k3, k4, k5⟩, k6⟩ := hck
        have e1 : tn = t0 := z_beq k1
        have e2 : tk = t1 := z_beq k2
        subst e1; subst e2
        refine (hg _ _).mpr fun T H locs env ls stk hs => ?_
        have hm := hs.2.2.2.2.2.2.2.2.2
        have hkk := hs.2.2.2.1
        rw [hS] at hkk
        obtain ⟨vk, s1, rfl, f1, vn, s2, rfl, f2, hs2⟩ := hkk
        have hs2 : s2 = [] := hs2
        subst hs2
        obtain ⟨v1, g1, ak, rfl, g2⟩ := z_get_ok hs.2.2.2.2.1 hk
        rw [f1] at g1
        cases g1
        obtain ⟨v2, g3, an, rfl, g4⟩ := z_get_ok hs.2.2.2.2.1 hn
        rw [f2] at g3
        cases g3
        obtain ⟨v3, g5, am, rfl, g6⟩ := z_get_ok hs.2.2.2.2.1 hm0
        have hgo := hall _ (List.mem_singleton.mpr rfl)
        obtain ⟨A, hOB, hA, hAS, hrep, hrF, hrG⟩ := zb_open hw hm.1.1 (S := fun i => if i = 0 then an else ak) (fun c i hc => by
          match c, hc with
          | 0, hc =>
            have : i = 0 := by cases hc; rfl
            subst this
            exact ⟨tn, rfl, g4⟩
          | 1, hc =>
            have : i = 1 := by cases hc; rfl
            subst this
            exact ⟨tk, rfl, g2⟩
          | c + 2, hc => simp at hc)
        have eA0 : A 0 = an := hAS 0 0 rfl
        have eA1 : A 1 = ak := hAS 1 1 rfl
        have hgeA : ∀ c, c < n_N zyCo → sz ≤ A c := fun c hc => by obtain ⟨t, _, t2⟩ := hA c hc; exact hm.2.1.1 _ _ t2
        obtain ⟨-, hJo⟩ := hJ OB D DA T H A _ _ hm.1.1 hm.1.2 hA hrep
        obtain ⟨lv, lv1, lv2, lv3⟩ := hs.2.2.1
        have hszH : sz ≤ H.size := Nat.le_trans hsz hm.2.2.2.2.1
        have hXp := zs_KX_p (own := "StarTales$Law") (own2 := "StarTales$LawReader") (tx := "huimrcknsexyd") (k := 48) (k2 := 101) (n := 13) (OB := OB) (sz := sz)
        have eq01 : ∀ c, c < 2 → (if c = 5 then am else A c) = A c := fun c hc => if_neg (by omega)
        have hrep5 : ∀ {F G H1}, zn_rep D DA z_cl zyCo A F G H1 ↔ zn_rep D DA z_cl zyCo (fun c => if c = 5 then am else A c) F G H1 := by
          intro F G H1
          constructor
          · intro h
            refine ⟨fun q hq => absurd hq List.not_mem_nil, fun q hq => absurd hq List.not_mem_nil, fun q hq => absurd hq List.not_mem_nil, fun q hq => ?_⟩
            have h4 := h.2.2.2 q hq
            have hq : q ∈ [(0, 0, 422, 0), (1, 0, 422, 1)] := hq
            simp only [List.mem_cons, List.not_mem_nil, or_false] at hq
            rcases hq with rfl | rfl
            · exact h4
            · exact h4
          · intro h
            refine ⟨fun q hq => absurd hq List.not_mem_nil, fun q hq => absurd hq List.not_mem_nil, fun q hq => absurd hq List.not_mem_nil, fun q hq => ?_⟩
            have h4 := h.2.2.2 q hq
            have hq : q ∈ [(0, 0, 422, 0), (1, 0, 422, 1)] := hq
            simp only [List.mem_cons, List.not_mem_nil, or_false] at hq
            rcases hq with rfl | rfl
            · exact h4
            · exact h4
        have hfrm5 : ∀ {H1}, zn_frm D z_cl zyCo (fun c => if c = 5 then am else A c) H H1 → zn_frm D z_cl zyCo A H H1 := by
          intro H1 h
          refine ⟨h.1, fun b hb => h.2.1 b (fun c hc => ?_), fun q hq => absurd hq List.not_mem_nil⟩
          have hc2 : c < 2 := hc
          show (if c = 5 then am else A c) ≠ b
          rw [eq01 c hc2]
          exact hb c hc
        have hB : zn_B z_cl z_FT z_KX z_TB z_MT zyCo zxm319 zkM (g_rm g) (fun pc L S F G => ∀ H1 locs1 ls1 stk1, zn_rep D DA z_cl zyCo (fun c => if c = 5 then am else A c) F G H1 → zn_frm D z_cl zyCo (fun c => if c = 5 then am else A c) H H1 → va_S (fun q => sz ≤ q) H H1 locs1 → zn_lv zxm319.2.2.1 ls1 (fun c => if c = 5 then am else A c) L → zn_st (fun c => if c = 5 then am else A c) S stk1 → W p l e (z_room g) s m args below meth c H1 locs1 (z_C st).1 (z_C st).2 Q (F0 m pc ls1 stk1)) :=
          ⟨p, l, e, z_room g, s, m, args, below, meth, c, Q, OB, D, DA, sz, (fun c => if c = 5 then am else A c), H, _, (z_C st).1, (z_C st).2, ⟨hx, hb, hml, hD, z_ks13 _ (fun _ h => List.mem_cons_of_mem _ h) _ _ _ _ (fun j r h _ => by cases h)⟩, ⟨hszH, hXp, hXp.2.1 s H0 H hX hm.2.2.2.2.1 hm.2.2.2.2.2.1, Nat.le_refl _, Nat.le_refl _, Nat.le_of_ble_eq_true k4, Nat.le_of_ble_eq_true k5⟩, ⟨by decide, fun x y hx hy he => zb_inj hw hA x y hx hy (by have h1 := eq01 x hx; have h2 := eq01 y hy; rw [← h1, ← h2]; exact he), fun x hx => by show sz ≤ (if x = 5 then am else A x); rw [eq01 x hx]; exact hgeA x hx, fun k => by show (if 900 + k = 5 then am else A (900 + k)) = OB k; rw [if_neg (by omega)]; exact hOB k⟩, fun _ _ _ _ _ => Iff.rfl⟩
        have hG0 : zb_G H A zyCo = [(fun i => zb_int H (A 0) i.toNat), (fun i => zb_int H (A 1) i.toNat)] := rfl
        rw [hG0] at hrep hrG
        refine zcp_walk (L := [.inr 5]) hrm hB (fun b' hb2 => ?_) H locs ls _ (hrep5.mp hrep) zn_frm_rf ⟨Nat.le_refl _, fun _ _ _ => rfl, hm.2.2.2.2.2.2⟩ ⟨lv, lv1, lv2, fun i v hi hv => ?_⟩ ⟨_, _, rfl, ?_, _, _, rfl, ?_, rfl⟩
        · intro H1 locs1 ls1 stk1 r1 f1 s1 n1 st1
          have st1 : stk1 = [] := st1
          subst st1
          have r1 := hrep5.mpr r1
          have f1 := hfrm5 f1
          have hrG' : zb_rG TY [tn, tk] zyCo [(fun i => zb_int H (A 0) i.toNat), b'] := by
            intro q hq o ho
            have hq2 : q ∈ [(0, 0, 422, 0), (1, 0, 422, 1)] := hq
            simp only [List.mem_cons, List.not_mem_nil, or_false] at hq2
            rcases hq2 with rfl | rfl
            · exact hrG _ hq o ho
            · refine ⟨b', rfl, fun sg hsg2 j j1 j2 j3 r hr => ?_⟩
              obtain ⟨o1, ho1⟩ := (zb_wfI hw).2 (0, 0, 422, 0) (by decide)
              obtain ⟨g0, l0, r0⟩ := hrG (0, 0, 422, 0) (by decide) o1 ho1
              have l0 : (fun i : Int => zb_int H (A 0) i.toNat) = g0 := Option.some.inj l0
              have j1 : j < 422 := j1
              have hbj := hb2 (j : Int) (by omega) (by omega)
              unfold zb_ar at ho ho1
              simp only [List.getElem?_cons_zero, List.getElem?_cons_succ] at ho ho1
              unfold zcp_sg at hsg
              simp only at hsg
              split at ho
              · rename_i q2 hq2
                obtain ⟨-, rfl⟩ := z_cond ho
                split at ho1
                · rename_i q1 hq1
                  obtain ⟨-, rfl⟩ := z_cond ho1
                  rw [hq1, hq2] at hsg
                  have h3 := List.all_eq_true.mp hsg sg hsg2
                  obtain ⟨sg1, u1, u2⟩ := List.any_eq_true.mp h3
                  simp only [Bool.and_eq_true] at u2
                  obtain ⟨⟨u3, u4⟩, u5⟩ := u2
                  have u3 := Nat.le_of_ble_eq_true u3
                  have u4 := Nat.le_of_ble_eq_true u4
                  rw [hr] at u5
                  split at u5
                  · rename_i rr w hrr hww
                    cases hww
                    rw [Bool.and_eq_true] at u5
                    have q1 := z_ile_ok u5.1
                    have q2 := z_ile_ok u5.2
                    have := r0 sg1 u1 j j1 (by omega) (by omega) rr hrr
                    rw [hbj, ← l0] at *
                    have this : rr.1 ≤ zb_int H (A 0) ((j : Int)).toNat ∧ zb_int H (A 0) ((j : Int)).toNat ≤ rr.2 := by rw [← l0] at this; exact this
                    exact ⟨by show r.1 ≤ zb_int H (A 0) ((j : Int)).toNat; omega, by show zb_int H (A 0) ((j : Int)).toNat ≤ r.2; omega⟩
                  · cases u5
                · cases ho1
              · cases ho
          obtain ⟨c1, c2⟩ := zb_close hw hm.1.1 hA r1 f1 (fun q hq => absurd hq List.not_mem_nil) hrG'
          have c3 := hJo _ _ _ c1 r1 f1 trivial
          obtain ⟨lv', n2, n3, n4⟩ := n1
          have hobj : ∀ {x u : Nat} {o : Nat × List zV}, T x = some u → TY[u]? = some (.inl o) → H1[x]? = H[x]? := by
            intro x u o hx2 hu
            refine f1.2.1 x (fun c hc e3 => ?_)
            obtain ⟨t, t1', t2'⟩ := hA c hc
            rw [e3, hx2] at t2'
            cases t2'
            have h5 := (zb_wfN hw hc t1').1 o.1 o.2 hu
            exact absurd h5 List.not_mem_nil
          refine (hg _ _).mp hgo T H1 locs1 env ls1 [] ⟨hs.1, hs.2.1, ⟨lv', n2, n3, fun q hq => ?_⟩, rfl, hs.2.2.2.2.1, fun q hq => ?_, fun q hq => absurd hq List.not_mem_nil, hs.2.2.2.2.2.2.2.1, trivial, ⟨⟨c1, c3⟩, ⟨hm.2.1.1, fun h => (by cases h), z_fin_tr hm.2.1.2.2 c2⟩, hm.2.2.1, fun q hq1 hq2 hq3 => ?_, ⟨Nat.le_trans hm.2.2.2.2.1 s1.1, fun q hq1 hq2 => ?_, s1.2.2⟩⟩⟩
          · have hq : q ∈ [(0, d0)] := hq
            rw [List.mem_singleton.mp hq]
            obtain ⟨w, hw2, mw⟩ := n4 0 _ rfl (by show (5 : Nat) < 1000; omega)
            have hw2 : w = .ref (if (5 : Nat) = 5 then am else A 5) := hw2
            rw [if_pos rfl] at hw2
            subst hw2
            exact ⟨_, g5, mw⟩
          · obtain ⟨aq, vq, rq, y1, y2, y3, y4, y5⟩ := hs.2.2.2.2.2.1 q hq
            have h7 := List.all_eq_true.mp k6 q hq
            split at h7
            · rename_i u hu
              split at h7
              · rename_i o ho
                obtain ⟨v9, z1, x9, rfl, z2⟩ := z_get_ok hs.2.2.2.2.1 hu
                rw [y1] at z1
                have e9 : aq = x9 := by cases z1; rfl
                subst e9
                obtain ⟨cell, w1, w2⟩ := y5
                exact ⟨aq, vq, rq, y1, y2, y3, y4, cell, by rw [hobj z2 ho]; exact w1, w2⟩
              · cases h7
            · cases h7
          · obtain ⟨w1, w2⟩ := hm.2.2.2.1 q hq1 hq2 hq3
            refine ⟨w1, ?_⟩
            rw [f1.2.1 q (fun c hc e3 => ?_), w2]
            obtain ⟨t, _, t2⟩ := hA c hc
            rw [e3, w1] at t2
            cases t2
          · rw [s1.2.1 q (Nat.lt_of_lt_of_le hq1 hm.2.2.2.2.1) hq2]
            exact hm.2.2.2.2.2.1 q hq1 hq2
        · match i, hi with
          | 0, hi =>
            have e3 : (.inr 5 : zNV) = v := Option.some.inj hi
            subst e3
            refine ⟨_, rfl, ?_⟩
            obtain ⟨w, w1, w2⟩ := lv3 _ (z_loc_mem hd0)
            have w1 : env[d0]? = some w := w1
            rw [g5] at w1
            cases w1
            show (0, Value.ref (if (5 : Nat) = 5 then am else A 5)) ∈ lv
            rw [if_pos rfl]
            exact w2
          | i + 1, hi => cases hi
        · show Value.ref ak = .ref (if (1 : Nat) = 5 then am else A 1)
          rw [if_neg (by omega), eA1]
        · show Value.ref an = .ref (if (0 : Nat) = 5 then am else A 0)
          rw [if_neg (by omega), eA0]
      · cases hL
    · cases hL
