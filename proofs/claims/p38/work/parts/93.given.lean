/-! Contracts by hand, over types. -/
def zxNT74 : List Nat := [114, 73, 74, 75, 76, 77, 78, 79, 80, 81, 82, 83, 84, 85, 86]
def zxRC74 : List zbC := [.inl 0, .inr (0, 12, 3), .inr (0, 12, 14), .inr (0, 12, 15), .inr (0, 12, 16), .inr (0, 12, 17), .inr (0, 12, 18), .inr (0, 12, 19), .inr (0, 12, 20), .inr (0, 12, 21), .inr (0, 12, 22), .inr (0, 12, 23), .inr (0, 12, 24), .inr (0, 12, 25), .inr (0, 12, 26)]
theorem zxw74 : zb_wf z_TYs z_cl zyM zxNT74 zxRC74 = true := by decide +kernel
theorem zxo74 : z_OK z_TB z_cl z_FT z_TYs z_PH z_KX zxm215.1 zxm215.2.1 zxm215.2.2.1 zxm215.2.2.2.1 zxg74 := zb_OK (mm := zxm215) (RF := [((-2147483648), 2147483647), ((-2147483648), 2147483647), ((-2147483648), 2147483647), ((-2147483648), 2147483647), ((-2147483648), 2147483647), ((-2147483648), 2147483647), ((-2147483648), 2147483647), ((-2147483648), 2147483647), (0, 220), (0, 14)]) (RG := [(220, ((-128), 127)), (220, ((-2147483648), 2147483647)), (220, ((-2147483648), 2147483647)), (14, ((-2147483648), 2147483647)), (14, ((-2147483648), 2147483647)), (14, ((-2147483648), 2147483647)), (14, ((-2147483648), 2147483647)), (220, ((-2147483648), 2147483647)), (14, ((-2147483648), 2147483647)), (14, ((-2147483648), 2147483647)), (14, ((-2147483648), 2147483647)), (14, ((-2147483648), 2147483647)), (220, ((-2147483648), 2147483647)), (13, ((-2147483648), 2147483647))]) (AR := [.inl 0, .inr ((-2147483648), 2147483647)]) (RFo := [(8, some (0, 220)), (9, some (0, 14))]) (RGo := [(0, none), (12, none), (13, none)]) (RR := some none) (LO := []) zxw74 (by decide +kernel) (zb_J12 (c := 0) (jc := 9) (a1 := 8) (n1 := 220) (j1 := 7) (a2 := 10) (n2 := 14) (j2 := 9) (a3 := 11) (n3 := 14) (j3 := 10) (a4 := 12) (n4 := 14) (j4 := 11) zxw74 rfl ⟨_, rfl⟩ (by decide) (by decide) (by decide) (by decide) (by decide) (by decide) (by decide) (by decide) (by decide) (by decide) rfl rfl rfl rfl (by decide +kernel)) (by
  intro va F G hva hF hG hJ
  obtain ⟨_, rfl, ⟨x1, _, rfl, xl1, xu1, rfl⟩⟩ := hva
  obtain ⟨f0, _, rfl, fl0, fu0, ⟨f1, _, rfl, fl1, fu1, ⟨f2, _, rfl, fl2, fu2, ⟨f3, _, rfl, fl3, fu3, ⟨f4, _, rfl, fl4, fu4, ⟨f5, _, rfl, fl5, fu5, ⟨f6, _, rfl, fl6, fu6, ⟨f7, _, rfl, fl7, fu7, ⟨f8, _, rfl, fl8, fu8, ⟨f9, _, rfl, fl9, fu9, rfl⟩⟩⟩⟩⟩⟩⟩⟩⟩⟩ := hF
  obtain ⟨g0, _, rfl, gr0, ⟨g1, _, rfl, gr1, ⟨g2, _, rfl, gr2, ⟨g3, _, rfl, gr3, ⟨g4, _, rfl, gr4, ⟨g5, _, rfl, gr5, ⟨g6, _, rfl, gr6, ⟨g7, _, rfl, gr7, ⟨g8, _, rfl, gr8, ⟨g9, _, rfl, gr9, ⟨g10, _, rfl, gr10, ⟨g11, _, rfl, gr11, ⟨g12, _, rfl, gr12, ⟨g13, _, rfl, gr13, rfl⟩⟩⟩⟩⟩⟩⟩⟩⟩⟩⟩⟩⟩⟩ := hG
  obtain ⟨cs0, h1, h2, h3, h4, e0, e1, e2, e3, e4, hP⟩ := hJ
  cases e0
  cases e1
  cases e2
  cases e3
  cases e4
  refine ⟨_, _, zh215, ⟨rfl, rfl, rfl, by omega, by omega, hP⟩, fun r F' G' hq => ?_⟩
  obtain ⟨v, pl', len', fl', op', cm', wt', nb', sm', tp', cs', said', w', sl', sf', sh', st', codes', co', cf', ch', ct', rfl, rfl, rfl, hP2, t1, t2⟩ := hq
  have hcs : 0 ≤ cs' ∧ cs' ≤ 14 := by
    obtain ⟨D, cm, _, _, _, c1, c2, _⟩ := hP2
    exact ⟨c1, c2⟩
  exact ⟨List.forall_mem_cons.mpr ⟨fun x h => (by cases h; exact ⟨t1, t2⟩), List.forall_mem_cons.mpr ⟨fun x h => (by cases h; exact hcs), fun _ h => absurd h List.not_mem_nil⟩⟩, List.forall_mem_cons.mpr ⟨rfl, List.forall_mem_cons.mpr ⟨rfl, List.forall_mem_cons.mpr ⟨rfl, fun _ h => absurd h List.not_mem_nil⟩⟩⟩, ⟨v, rfl⟩, ⟨cs', codes', cf', ch', ct', rfl, rfl, rfl, rfl, rfl, hP2⟩⟩)
def zxNT105 : List Nat := [28, 20, 21, 26, 27]
def zxRC105 : List zbC := [.inl 0, .inr (0, 4, 0), .inr (0, 4, 1), .inr (0, 4, 12), .inr (0, 4, 13)]
theorem zxw105 : zb_wf z_TYs z_cl zyV zxNT105 zxRC105 = true := by decide +kernel
theorem zxo105 : z_OK z_TB z_cl z_FT z_TYs z_PH z_KX zxm94.1 zxm94.2.1 zxm94.2.2.1 zxm94.2.2.2.1 zxg105 := zb_OK (mm := zxm94) (RF := [((-2147483648), 2147483647)]) (RG := [(200, (0, 12)), (200, (0, 99999)), (13, ((-2147483648), 2147483647)), (40, ((-2147483648), 2147483647))]) (AR := [.inl 0, .inr (0, 200), .inr ((-2147483648), 200)]) (RFo := []) (RGo := [(0, none), (1, none), (2, none)]) (RR := some none) (LO := []) zxw105 (by decide +kernel) (zb_J4 (c := 0) (a1 := 1) (n1 := 200) (j1 := 0) (a2 := 2) (n2 := 200) (j2 := 1) zxw105 rfl ⟨_, rfl⟩ (by decide) (by decide) (by decide) (by decide) (by decide) rfl rfl (by decide +kernel)) (by
  intro va F G hva hF hG hJ
  obtain ⟨_, rfl, ⟨x1, _, rfl, xl1, xu1, ⟨x2, _, rfl, xl2, xu2, rfl⟩⟩⟩ := hva
  obtain ⟨f0, _, rfl, fl0, fu0, rfl⟩ := hF
  obtain ⟨g0, _, rfl, gr0, ⟨g1, _, rfl, gr1, ⟨g2, _, rfl, gr2, ⟨g3, _, rfl, gr3, rfl⟩⟩⟩⟩ := hG
  obtain ⟨h1, h2, e1, e2, hP⟩ := hJ
  cases e1
  cases e2
  refine ⟨_, _, zh94, ⟨rfl, rfl, rfl, hP, by omega, by omega, by omega⟩, fun r F' G' hq => ?_⟩
  obtain ⟨v, ans', stk', rfl, rfl, rfl⟩ := hq
  exact ⟨fun _ h => absurd h List.not_mem_nil, List.forall_mem_cons.mpr ⟨rfl, List.forall_mem_cons.mpr ⟨rfl, List.forall_mem_cons.mpr ⟨rfl, fun _ h => absurd h List.not_mem_nil⟩⟩⟩, ⟨v, rfl⟩, ⟨_, _, rfl, rfl, hP⟩⟩)
def zxNT116 : List Nat := [114, 73, 74, 75, 76, 77, 78, 79, 80, 81, 82, 83, 84, 85, 86]
def zxRC116 : List zbC := [.inl 0, .inr (0, 12, 3), .inr (0, 12, 14), .inr (0, 12, 15), .inr (0, 12, 16), .inr (0, 12, 17), .inr (0, 12, 18), .inr (0, 12, 19), .inr (0, 12, 20), .inr (0, 12, 21), .inr (0, 12, 22), .inr (0, 12, 23), .inr (0, 12, 24), .inr (0, 12, 25), .inr (0, 12, 26)]
theorem zxw116 : zb_wf z_TYs z_cl zyM zxNT116 zxRC116 = true := by decide +kernel
theorem zxo116 : z_OK z_TB z_cl z_FT z_TYs z_PH z_KX zxm248.1 zxm248.2.1 zxm248.2.2.1 zxm248.2.2.2.1 zxg116 := zb_OK (mm := zxm248) (RF := [((-2147483648), 2147483647), ((-2147483648), 2147483647), ((-2147483648), 2147483647), ((-2147483648), 2147483647), ((-2147483648), 2147483647), ((-2147483648), 2147483647), ((-2147483648), 2147483647), ((-2147483648), 2147483647), (0, 220), (0, 14)]) (RG := [(220, ((-128), 127)), (220, ((-2147483648), 2147483647)), (220, ((-2147483648), 2147483647)), (14, ((-2147483648), 2147483647)), (14, ((-2147483648), 2147483647)), (14, ((-2147483648), 2147483647)), (14, ((-2147483648), 2147483647)), (220, ((-2147483648), 2147483647)), (14, ((-2147483648), 2147483647)), (14, ((-2147483648), 2147483647)), (14, ((-2147483648), 2147483647)), (14, ((-2147483648), 2147483647)), (220, ((-2147483648), 2147483647)), (13, ((-2147483648), 2147483647))]) (AR := [.inl 0, .inr ((-2147483648), 2147483647)]) (RFo := [(0, none), (1, none), (2, none), (3, none), (4, none), (5, none), (6, none), (7, none), (8, none), (9, none)]) (RGo := [(0, none), (1, none), (2, none), (3, none), (4, none), (5, none), (6, none), (7, none), (8, none), (9, none), (10, none), (11, none), (13, none)]) (RR := some (some (0, 1))) (LO := [((0, 12, 48, none), .inl (.ofNat 0, .ofNat 28))]) zxw116 (by decide +kernel) (zb_J12 (c := 0) (jc := 9) (a1 := 8) (n1 := 220) (j1 := 7) (a2 := 10) (n2 := 14) (j2 := 9) (a3 := 11) (n3 := 14) (j3 := 10) (a4 := 12) (n4 := 14) (j4 := 11) zxw116 rfl ⟨_, rfl⟩ (by decide) (by decide) (by decide) (by decide) (by decide) (by decide) (by decide) (by decide) (by decide) (by decide) rfl rfl rfl rfl (by decide +kernel)) (by
  intro va F G hva hF hG hJ
  obtain ⟨_, rfl, ⟨x1, _, rfl, xl1, xu1, rfl⟩⟩ := hva
  obtain ⟨f0, _, rfl, fl0, fu0, ⟨f1, _, rfl, fl1, fu1, ⟨f2, _, rfl, fl2, fu2, ⟨f3, _, rfl, fl3, fu3, ⟨f4, _, rfl, fl4, fu4, ⟨f5, _, rfl, fl5, fu5, ⟨f6, _, rfl, fl6, fu6, ⟨f7, _, rfl, fl7, fu7, ⟨f8, _, rfl, fl8, fu8, ⟨f9, _, rfl, fl9, fu9, rfl⟩⟩⟩⟩⟩⟩⟩⟩⟩⟩ := hF
  obtain ⟨g0, _, rfl, gr0, ⟨g1, _, rfl, gr1, ⟨g2, _, rfl, gr2, ⟨g3, _, rfl, gr3, ⟨g4, _, rfl, gr4, ⟨g5, _, rfl, gr5, ⟨g6, _, rfl, gr6, ⟨g7, _, rfl, gr7, ⟨g8, _, rfl, gr8, ⟨g9, _, rfl, gr9, ⟨g10, _, rfl, gr10, ⟨g11, _, rfl, gr11, ⟨g12, _, rfl, gr12, ⟨g13, _, rfl, gr13, rfl⟩⟩⟩⟩⟩⟩⟩⟩⟩⟩⟩⟩⟩⟩ := hG
  obtain ⟨cs0, h1, h2, h3, h4, e0, e1, e2, e3, e4, hP⟩ := hJ
  cases e0
  cases e1
  cases e2
  cases e3
  cases e4
  refine ⟨_, _, zh248, ⟨rfl, rfl, rfl, hP⟩, fun r F' G' hq => ?_⟩
  obtain ⟨v, stk', rfl, hv, rfl, rfl⟩ := hq
  have hv2 : 0 ≤ v ∧ v ≤ 1 := by omega
  exact ⟨List.forall_mem_cons.mpr ⟨rfl, List.forall_mem_cons.mpr ⟨rfl, List.forall_mem_cons.mpr ⟨rfl, List.forall_mem_cons.mpr ⟨rfl, List.forall_mem_cons.mpr ⟨rfl, List.forall_mem_cons.mpr ⟨rfl, List.forall_mem_cons.mpr ⟨rfl, List.forall_mem_cons.mpr ⟨rfl, List.forall_mem_cons.mpr ⟨rfl, List.forall_mem_cons.mpr ⟨rfl, fun _ h => absurd h List.not_mem_nil⟩⟩⟩⟩⟩⟩⟩⟩⟩⟩, List.forall_mem_cons.mpr ⟨rfl, List.forall_mem_cons.mpr ⟨rfl, List.forall_mem_cons.mpr ⟨rfl, List.forall_mem_cons.mpr ⟨rfl, List.forall_mem_cons.mpr ⟨rfl, List.forall_mem_cons.mpr ⟨rfl, List.forall_mem_cons.mpr ⟨rfl, List.forall_mem_cons.mpr ⟨rfl, List.forall_mem_cons.mpr ⟨rfl, List.forall_mem_cons.mpr ⟨rfl, List.forall_mem_cons.mpr ⟨rfl, List.forall_mem_cons.mpr ⟨rfl, List.forall_mem_cons.mpr ⟨rfl, fun _ h => absurd h List.not_mem_nil⟩⟩⟩⟩⟩⟩⟩⟩⟩⟩⟩⟩⟩, ⟨v, rfl, by show (_ : Int) ≤ v; omega, by show v ≤ (_ : Int); omega⟩, ⟨_, _, _, _, _, rfl, rfl, rfl, rfl, rfl, hP⟩⟩)
def zxNT132 : List Nat := []
def zxRC132 : List zbC := []
theorem zxw132 : zb_wf z_TYs z_cl zy0 zxNT132 zxRC132 = true := by decide +kernel
theorem zxo132 : z_OK z_TB z_cl z_FT z_TYs z_PH z_KX zxm105.1 zxm105.2.1 zxm105.2.2.1 zxm105.2.2.2.1 zxg132 := zb_OK (mm := zxm105) (RF := []) (RG := []) (AR := [.inr (1, 16777215)]) (RFo := []) (RGo := []) (RR := some (some (0, 23))) (LO := []) zxw132 (by decide +kernel) (zb_Jn zxw132 (by decide +kernel)) (by
  intro va F G hva hF hG hJ
  obtain ⟨x0, _, rfl, xl0, xu0, rfl⟩ := hva
  have hF : F = [] := hF
  subst hF
  have hG : G = [] := hG
  subst hG
  refine ⟨_, _, zh105, ⟨rfl, by omega, by omega⟩, fun r F' G' hq => ?_⟩
  obtain ⟨rfl, rfl, v, rfl, v1, v2, v3⟩ := hq
  exact ⟨fun _ h => absurd h List.not_mem_nil, fun _ h => absurd h List.not_mem_nil, ⟨v, rfl, v1, v3 (by omega)⟩, trivial⟩)
def zxNT141 : List Nat := [114, 87]
def zxRC141 : List zbC := [.inl 0, .inr (0, 12, 28)]
theorem zxw141 : zb_wf z_TYs z_cl zyFi zxNT141 zxRC141 = true := by decide +kernel
theorem zxo141 : z_OK z_TB z_cl z_FT z_TYs z_PH z_KX zxm256.1 zxm256.2.1 zxm256.2.2.1 zxm256.2.2.2.1 zxg141 := zb_OK (mm := zxm256) (RF := []) (RG := [(24, (0, 16777215))]) (AR := [.inl 0, .inr (0, 23)]) (RFo := []) (RGo := [(0, none)]) (RR := some (some (0, 16777215))) (LO := []) zxw141 (by decide +kernel) (zb_Jn zxw141 (by decide +kernel)) (by
  intro va F G hva hF hG hJ
  obtain ⟨_, rfl, ⟨x1, _, rfl, xl1, xu1, rfl⟩⟩ := hva
  have hF : F = [] := hF
  subst hF
  obtain ⟨g0, _, rfl, gr0, rfl⟩ := hG
  refine ⟨_, _, zh256, ⟨rfl, rfl, by omega, by omega, fun k k1 k2 => ⟨(by have h9 : (0 : Int) ≤ g0 k ∧ g0 k ≤ (16777215 : Int) := gr0 k k1 k2; omega), (by have h9 : (0 : Int) ≤ g0 k ∧ g0 k ≤ (16777215 : Int) := gr0 k k1 k2; omega)⟩⟩, fun r F' G' hq => ?_⟩
  obtain ⟨rfl, rfl, v, rfl, v1, v2⟩ := hq
  exact ⟨fun _ h => absurd h List.not_mem_nil, List.forall_mem_cons.mpr ⟨rfl, fun _ h => absurd h List.not_mem_nil⟩, ⟨v, rfl, v1, by show v ≤ (16777215 : Int); omega⟩, trivial⟩)
def zxNT172 : List Nat := [114, 88, 89, 92, 93, 94, 87]
def zxRC172 : List zbC := [.inl 0, .inr (0, 12, 34), .inr (0, 12, 35), .inr (0, 12, 38), .inr (0, 12, 39), .inr (0, 12, 40), .inr (0, 12, 28)]
theorem zxw172 : zb_wf z_TYs z_cl zyWa zxNT172 zxRC172 = true := by decide +kernel
theorem zxo172 : z_OK z_TB z_cl z_FT z_TYs z_PH z_KX zxm268.1 zxm268.2.1 zxm268.2.2.1 zxm268.2.2.2.1 zxg172 := zb_OK (mm := zxm268) (RF := [(0, 16777215), (0, 12), ((-2147483648), 2147483647), (0, 8)]) (RG := [(12, ((-66), 190)), (12, ((-66), 190)), (8, (0, 7)), (8, ((-2147483648), 2147483647)), (8, ((-2147483648), 2147483647)), (24, (0, 16777215))]) (AR := [.inl 0, .inr ((-2147483648), 1000000)]) (RFo := [(0, none), (1, none), (2, none), (3, some (0, 8))]) (RGo := [(0, none), (1, none), (2, some (8, (0, 7))), (5, none)]) (RR := some none) (LO := []) zxw172 (by decide +kernel) (zb_Jn zxw172 (by decide +kernel)) (by
  intro va F G hva hF hG hJ
  obtain ⟨_, rfl, ⟨x1, _, rfl, xl1, xu1, rfl⟩⟩ := hva
  obtain ⟨f0, _, rfl, fl0, fu0, ⟨f1, _, rfl, fl1, fu1, ⟨f2, _, rfl, fl2, fu2, ⟨f3, _, rfl, fl3, fu3, rfl⟩⟩⟩⟩ := hF
  obtain ⟨g0, _, rfl, gr0, ⟨g1, _, rfl, gr1, ⟨g2, _, rfl, gr2, ⟨g3, _, rfl, gr3, ⟨g4, _, rfl, gr4, ⟨g5, _, rfl, gr5, rfl⟩⟩⟩⟩⟩⟩ := hG
  refine ⟨_, _, zh268, ⟨rfl, rfl, rfl, by omega, by omega, by omega, fun j j1 j2 => ⟨(by have h9 : (0 : Int) ≤ g2 j ∧ g2 j ≤ (7 : Int) := gr2 j j1 j2; omega), (by have h9 : (0 : Int) ≤ g2 j ∧ g2 j ≤ (7 : Int) := gr2 j j1 j2; omega)⟩⟩, fun r F' G' hq => ?_⟩
  obtain ⟨v, nm', na', sf', ff', rfl, rfl, rfl, n1, n2, n3⟩ := hq
  exact ⟨List.forall_mem_cons.mpr ⟨rfl, List.forall_mem_cons.mpr ⟨rfl, List.forall_mem_cons.mpr ⟨rfl, List.forall_mem_cons.mpr ⟨fun x h => (by cases h; exact ⟨n1, n2⟩), fun _ h => absurd h List.not_mem_nil⟩⟩⟩⟩, List.forall_mem_cons.mpr ⟨rfl, List.forall_mem_cons.mpr ⟨rfl, List.forall_mem_cons.mpr ⟨fun g h => (by cases h; exact n3), List.forall_mem_cons.mpr ⟨rfl, fun _ h => absurd h List.not_mem_nil⟩⟩⟩⟩, ⟨v, rfl⟩, trivial⟩)
def zxNT216 : List Nat := [114, 96, 95, 98]
def zxRC216 : List zbC := [.inl 0, .inr (0, 12, 43), .inr (0, 12, 42), .inr (0, 12, 45)]
theorem zxw216 : zb_wf z_TYs z_cl zyHa zxNT216 zxRC216 = true := by decide +kernel
theorem zxo216 : z_OK z_TB z_cl z_FT z_TYs z_PH z_KX zxm282.1 zxm282.2.1 zxm282.2.2.1 zxm282.2.2.2.1 zxg216 := zb_OK (mm := zxm282) (RF := []) (RG := [(288, (0, 24)), (6912, ((-10990), 24239)), (12, (0, 1000000000))]) (AR := [.inl 0, .inr (0, 287), .inr (0, 12)]) (RFo := []) (RGo := [(0, none), (1, none), (2, none)]) (RR := some (some (0, 1))) (LO := []) zxw216 (by decide +kernel) (zb_Jn zxw216 (by decide +kernel)) (by
  intro va F G hva hF hG hJ
  obtain ⟨_, rfl, ⟨x1, _, rfl, xl1, xu1, ⟨x2, _, rfl, xl2, xu2, rfl⟩⟩⟩ := hva
  have hF : F = [] := hF
  subst hF
  obtain ⟨g0, _, rfl, gr0, ⟨g1, _, rfl, gr1, ⟨g2, _, rfl, gr2, rfl⟩⟩⟩ := hG
  refine ⟨_, _, zh282, ⟨rfl, rfl, by omega, by omega, by omega, by omega, fun k k1 k2 => ⟨(by have h9 : (0 : Int) ≤ g0 k ∧ g0 k ≤ (24 : Int) := gr0 k k1 k2; omega), (by have h9 : (0 : Int) ≤ g0 k ∧ g0 k ≤ (24 : Int) := gr0 k k1 k2; omega)⟩⟩, fun r F' G' hq => ?_⟩
  obtain ⟨rfl, rfl, hx⟩ := hq
  exact ⟨fun _ h => absurd h List.not_mem_nil, List.forall_mem_cons.mpr ⟨rfl, List.forall_mem_cons.mpr ⟨rfl, List.forall_mem_cons.mpr ⟨rfl, fun _ h => absurd h List.not_mem_nil⟩⟩⟩, (by rcases hx with rfl | rfl; exact ⟨0, rfl, by decide, by decide⟩; exact ⟨1, rfl, by decide, by decide⟩), trivial⟩)
def zxNT233 : List Nat := [114, 70, 100]
def zxRC233 : List zbC := [.inl 0, .inr (0, 12, 0), .inr (0, 12, 47)]
theorem zxw233 : zb_wf z_TYs z_cl zyLe zxNT233 zxRC233 = true := by decide +kernel
theorem zxo233 : z_OK z_TB z_cl z_FT z_TYs z_PH z_KX zxm285.1 zxm285.2.1 zxm285.2.2.1 zxm285.2.2.2.1 zxg233 := zb_OK (mm := zxm285) (RF := [(0, 28)]) (RG := [(422, ((-2147483648), 2147483647)), (28, (0, 16777215))]) (AR := [.inl 0, .inr (1, 8)]) (RFo := [(0, none)]) (RGo := [(0, none), (1, none)]) (RR := some (some ((-1), 16777215))) (LO := []) zxw233 (by decide +kernel) (zb_Jn zxw233 (by decide +kernel)) (by
  intro va F G hva hF hG hJ
  obtain ⟨_, rfl, ⟨x1, _, rfl, xl1, xu1, rfl⟩⟩ := hva
  obtain ⟨f0, _, rfl, fl0, fu0, rfl⟩ := hF
  obtain ⟨g0, _, rfl, gr0, ⟨g1, _, rfl, gr1, rfl⟩⟩ := hG
  refine ⟨_, _, zh285, ⟨rfl, rfl, rfl, by omega, by omega, by omega⟩, fun r F' G' hq => ?_⟩
  obtain ⟨rfl, rfl, v, rfl, v1, v2⟩ := hq
  exact ⟨List.forall_mem_cons.mpr ⟨rfl, fun _ h => absurd h List.not_mem_nil⟩, List.forall_mem_cons.mpr ⟨rfl, List.forall_mem_cons.mpr ⟨rfl, fun _ h => absurd h List.not_mem_nil⟩⟩, ⟨v, rfl, v1, by show v ≤ (16777215 : Int); omega⟩, trivial⟩)
def zxNT247 : List Nat := [114, 73, 74, 75, 76, 77, 78, 79, 80, 81, 82, 83, 84, 85, 86]
def zxRC247 : List zbC := [.inl 0, .inr (0, 12, 3), .inr (0, 12, 14), .inr (0, 12, 15), .inr (0, 12, 16), .inr (0, 12, 17), .inr (0, 12, 18), .inr (0, 12, 19), .inr (0, 12, 20), .inr (0, 12, 21), .inr (0, 12, 22), .inr (0, 12, 23), .inr (0, 12, 24), .inr (0, 12, 25), .inr (0, 12, 26)]
theorem zxw247 : zb_wf z_TYs z_cl zyM zxNT247 zxRC247 = true := by decide +kernel
theorem zxo247 : z_OK z_TB z_cl z_FT z_TYs z_PH z_KX zxm288.1 zxm288.2.1 zxm288.2.2.1 zxm288.2.2.2.1 zxg247 := zb_OK (mm := zxm288) (RF := [((-2147483648), 2147483647), ((-2147483648), 2147483647), ((-2147483648), 2147483647), ((-2147483648), 2147483647), ((-2147483648), 2147483647), ((-2147483648), 2147483647), ((-2147483648), 2147483647), ((-2147483648), 2147483647), (0, 220), (0, 14)]) (RG := [(220, ((-128), 127)), (220, ((-2147483648), 2147483647)), (220, ((-2147483648), 2147483647)), (14, ((-2147483648), 2147483647)), (14, ((-2147483648), 2147483647)), (14, ((-2147483648), 2147483647)), (14, ((-2147483648), 2147483647)), (220, ((-2147483648), 2147483647)), (14, ((-2147483648), 2147483647)), (14, ((-2147483648), 2147483647)), (14, ((-2147483648), 2147483647)), (14, ((-2147483648), 2147483647)), (220, ((-2147483648), 2147483647)), (13, ((-2147483648), 2147483647))]) (AR := [.inl 0, .inr ((-2147483648), 2147483647), .inr (999, 999)]) (RFo := [(0, none), (1, none), (2, none), (3, none), (4, none), (5, none), (6, none), (7, none), (8, none), (9, none)]) (RGo := [(0, none), (1, none), (2, none), (3, none), (4, none), (5, none), (6, none), (7, none), (8, none), (9, none), (10, none), (11, none), (13, none)]) (RR := some (some (0, 999))) (LO := []) zxw247 (by decide +kernel) (zb_J12 (c := 0) (jc := 9) (a1 := 8) (n1 := 220) (j1 := 7) (a2 := 10) (n2 := 14) (j2 := 9) (a3 := 11) (n3 := 14) (j3 := 10) (a4 := 12) (n4 := 14) (j4 := 11) zxw247 rfl ⟨_, rfl⟩ (by decide) (by decide) (by decide) (by decide) (by decide) (by decide) (by decide) (by decide) (by decide) (by decide) rfl rfl rfl rfl (by decide +kernel)) (by
  intro va F G hva hF hG hJ
  obtain ⟨_, rfl, ⟨x1, _, rfl, xl1, xu1, ⟨x2, _, rfl, xl2, xu2, rfl⟩⟩⟩ := hva
  obtain ⟨f0, _, rfl, fl0, fu0, ⟨f1, _, rfl, fl1, fu1, ⟨f2, _, rfl, fl2, fu2, ⟨f3, _, rfl, fl3, fu3, ⟨f4, _, rfl, fl4, fu4, ⟨f5, _, rfl, fl5, fu5, ⟨f6, _, rfl, fl6, fu6, ⟨f7, _, rfl, fl7, fu7, ⟨f8, _, rfl, fl8, fu8, ⟨f9, _, rfl, fl9, fu9, rfl⟩⟩⟩⟩⟩⟩⟩⟩⟩⟩ := hF
  obtain ⟨g0, _, rfl, gr0, ⟨g1, _, rfl, gr1, ⟨g2, _, rfl, gr2, ⟨g3, _, rfl, gr3, ⟨g4, _, rfl, gr4, ⟨g5, _, rfl, gr5, ⟨g6, _, rfl, gr6, ⟨g7, _, rfl, gr7, ⟨g8, _, rfl, gr8, ⟨g9, _, rfl, gr9, ⟨g10, _, rfl, gr10, ⟨g11, _, rfl, gr11, ⟨g12, _, rfl, gr12, ⟨g13, _, rfl, gr13, rfl⟩⟩⟩⟩⟩⟩⟩⟩⟩⟩⟩⟩⟩⟩ := hG
  obtain ⟨cs0, h1, h2, h3, h4, e0, e1, e2, e3, e4, hP⟩ := hJ
  cases e0
  cases e1
  cases e2
  cases e3
  cases e4
  refine ⟨_, _, zh288, ⟨rfl, rfl, rfl, hP, by omega⟩, fun r F' G' hq => ?_⟩
  obtain ⟨v, stk', rfl, v1, v2, rfl, rfl⟩ := hq
  have hv2 : 0 ≤ v ∧ v ≤ x2 := ⟨v1, v2⟩
  exact ⟨List.forall_mem_cons.mpr ⟨rfl, List.forall_mem_cons.mpr ⟨rfl, List.forall_mem_cons.mpr ⟨rfl, List.forall_mem_cons.mpr ⟨rfl, List.forall_mem_cons.mpr ⟨rfl, List.forall_mem_cons.mpr ⟨rfl, List.forall_mem_cons.mpr ⟨rfl, List.forall_mem_cons.mpr ⟨rfl, List.forall_mem_cons.mpr ⟨rfl, List.forall_mem_cons.mpr ⟨rfl, fun _ h => absurd h List.not_mem_nil⟩⟩⟩⟩⟩⟩⟩⟩⟩⟩, List.forall_mem_cons.mpr ⟨rfl, List.forall_mem_cons.mpr ⟨rfl, List.forall_mem_cons.mpr ⟨rfl, List.forall_mem_cons.mpr ⟨rfl, List.forall_mem_cons.mpr ⟨rfl, List.forall_mem_cons.mpr ⟨rfl, List.forall_mem_cons.mpr ⟨rfl, List.forall_mem_cons.mpr ⟨rfl, List.forall_mem_cons.mpr ⟨rfl, List.forall_mem_cons.mpr ⟨rfl, List.forall_mem_cons.mpr ⟨rfl, List.forall_mem_cons.mpr ⟨rfl, List.forall_mem_cons.mpr ⟨rfl, fun _ h => absurd h List.not_mem_nil⟩⟩⟩⟩⟩⟩⟩⟩⟩⟩⟩⟩⟩, ⟨v, rfl, by show (_ : Int) ≤ v; omega, by show v ≤ (_ : Int); omega⟩, ⟨_, _, _, _, _, rfl, rfl, rfl, rfl, rfl, hP⟩⟩)
def zxNT248 : List Nat := [114, 73, 74, 75, 76, 77, 78, 79, 80, 81, 82, 83, 84, 85, 86]
def zxRC248 : List zbC := [.inl 0, .inr (0, 12, 3), .inr (0, 12, 14), .inr (0, 12, 15), .inr (0, 12, 16), .inr (0, 12, 17), .inr (0, 12, 18), .inr (0, 12, 19), .inr (0, 12, 20), .inr (0, 12, 21), .inr (0, 12, 22), .inr (0, 12, 23), .inr (0, 12, 24), .inr (0, 12, 25), .inr (0, 12, 26)]
theorem zxw248 : zb_wf z_TYs z_cl zyM zxNT248 zxRC248 = true := by decide +kernel
theorem zxo248 : z_OK z_TB z_cl z_FT z_TYs z_PH z_KX zxm288.1 zxm288.2.1 zxm288.2.2.1 zxm288.2.2.2.1 zxg248 := zb_OK (mm := zxm288) (RF := [((-2147483648), 2147483647), ((-2147483648), 2147483647), ((-2147483648), 2147483647), ((-2147483648), 2147483647), ((-2147483648), 2147483647), ((-2147483648), 2147483647), ((-2147483648), 2147483647), ((-2147483648), 2147483647), (0, 220), (0, 14)]) (RG := [(220, ((-128), 127)), (220, ((-2147483648), 2147483647)), (220, ((-2147483648), 2147483647)), (14, ((-2147483648), 2147483647)), (14, ((-2147483648), 2147483647)), (14, ((-2147483648), 2147483647)), (14, ((-2147483648), 2147483647)), (220, ((-2147483648), 2147483647)), (14, ((-2147483648), 2147483647)), (14, ((-2147483648), 2147483647)), (14, ((-2147483648), 2147483647)), (14, ((-2147483648), 2147483647)), (220, ((-2147483648), 2147483647)), (13, ((-2147483648), 2147483647))]) (AR := [.inl 0, .inr ((-2147483648), 2147483647), .inr (99, 99)]) (RFo := [(0, none), (1, none), (2, none), (3, none), (4, none), (5, none), (6, none), (7, none), (8, none), (9, none)]) (RGo := [(0, none), (1, none), (2, none), (3, none), (4, none), (5, none), (6, none), (7, none), (8, none), (9, none), (10, none), (11, none), (13, none)]) (RR := some (some (0, 99))) (LO := []) zxw248 (by decide +kernel) (zb_J12 (c := 0) (jc := 9) (a1 := 8) (n1 := 220) (j1 := 7) (a2 := 10) (n2 := 14) (j2 := 9) (a3 := 11) (n3 := 14) (j3 := 10) (a4 := 12) (n4 := 14) (j4 := 11) zxw248 rfl ⟨_, rfl⟩ (by decide) (by decide) (by decide) (by decide) (by decide) (by decide) (by decide) (by decide) (by decide) (by decide) rfl rfl rfl rfl (by decide +kernel)) (by
  intro va F G hva hF hG hJ
  obtain ⟨_, rfl, ⟨x1, _, rfl, xl1, xu1, ⟨x2, _, rfl, xl2, xu2, rfl⟩⟩⟩ := hva
  obtain ⟨f0, _, rfl, fl0, fu0, ⟨f1, _, rfl, fl1, fu1, ⟨f2, _, rfl, fl2, fu2, ⟨f3, _, rfl, fl3, fu3, ⟨f4, _, rfl, fl4, fu4, ⟨f5, _, rfl, fl5, fu5, ⟨f6, _, rfl, fl6, fu6, ⟨f7, _, rfl, fl7, fu7, ⟨f8, _, rfl, fl8, fu8, ⟨f9, _, rfl, fl9, fu9, rfl⟩⟩⟩⟩⟩⟩⟩⟩⟩⟩ := hF
  obtain ⟨g0, _, rfl, gr0, ⟨g1, _, rfl, gr1, ⟨g2, _, rfl, gr2, ⟨g3, _, rfl, gr3, ⟨g4, _, rfl, gr4, ⟨g5, _, rfl, gr5, ⟨g6, _, rfl, gr6, ⟨g7, _, rfl, gr7, ⟨g8, _, rfl, gr8, ⟨g9, _, rfl, gr9, ⟨g10, _, rfl, gr10, ⟨g11, _, rfl, gr11, ⟨g12, _, rfl, gr12, ⟨g13, _, rfl, gr13, rfl⟩⟩⟩⟩⟩⟩⟩⟩⟩⟩⟩⟩⟩⟩ := hG
  obtain ⟨cs0, h1, h2, h3, h4, e0, e1, e2, e3, e4, hP⟩ := hJ
  cases e0
  cases e1
  cases e2
  cases e3
  cases e4
  refine ⟨_, _, zh288, ⟨rfl, rfl, rfl, hP, by omega⟩, fun r F' G' hq => ?_⟩
  obtain ⟨v, stk', rfl, v1, v2, rfl, rfl⟩ := hq
  have hv2 : 0 ≤ v ∧ v ≤ x2 := ⟨v1, v2⟩
  exact ⟨List.forall_mem_cons.mpr ⟨rfl, List.forall_mem_cons.mpr ⟨rfl, List.forall_mem_cons.mpr ⟨rfl, List.forall_mem_cons.mpr ⟨rfl, List.forall_mem_cons.mpr ⟨rfl, List.forall_mem_cons.mpr ⟨rfl, List.forall_mem_cons.mpr ⟨rfl, List.forall_mem_cons.mpr ⟨rfl, List.forall_mem_cons.mpr ⟨rfl, List.forall_mem_cons.mpr ⟨rfl, fun _ h => absurd h List.not_mem_nil⟩⟩⟩⟩⟩⟩⟩⟩⟩⟩, List.forall_mem_cons.mpr ⟨rfl, List.forall_mem_cons.mpr ⟨rfl, List.forall_mem_cons.mpr ⟨rfl, List.forall_mem_cons.mpr ⟨rfl, List.forall_mem_cons.mpr ⟨rfl, List.forall_mem_cons.mpr ⟨rfl, List.forall_mem_cons.mpr ⟨rfl, List.forall_mem_cons.mpr ⟨rfl, List.forall_mem_cons.mpr ⟨rfl, List.forall_mem_cons.mpr ⟨rfl, List.forall_mem_cons.mpr ⟨rfl, List.forall_mem_cons.mpr ⟨rfl, List.forall_mem_cons.mpr ⟨rfl, fun _ h => absurd h List.not_mem_nil⟩⟩⟩⟩⟩⟩⟩⟩⟩⟩⟩⟩⟩, ⟨v, rfl, by show (_ : Int) ≤ v; omega, by show v ≤ (_ : Int); omega⟩, ⟨_, _, _, _, _, rfl, rfl, rfl, rfl, rfl, hP⟩⟩)
def zxNT263 : List Nat := [114, 73, 74, 75, 76, 77, 78, 79, 80, 81, 82, 83, 84, 85, 86]
def zxRC263 : List zbC := [.inl 0, .inr (0, 12, 3), .inr (0, 12, 14), .inr (0, 12, 15), .inr (0, 12, 16), .inr (0, 12, 17), .inr (0, 12, 18), .inr (0, 12, 19), .inr (0, 12, 20), .inr (0, 12, 21), .inr (0, 12, 22), .inr (0, 12, 23), .inr (0, 12, 24), .inr (0, 12, 25), .inr (0, 12, 26)]
theorem zxw263 : zb_wf z_TYs z_cl zyM zxNT263 zxRC263 = true := by decide +kernel
theorem zxo263 : z_OK z_TB z_cl z_FT z_TYs z_PH z_KX zxm288.1 zxm288.2.1 zxm288.2.2.1 zxm288.2.2.2.1 zxg263 := zb_OK (mm := zxm288) (RF := [((-2147483648), 2147483647), ((-2147483648), 2147483647), ((-2147483648), 2147483647), ((-2147483648), 2147483647), ((-2147483648), 2147483647), ((-2147483648), 2147483647), ((-2147483648), 2147483647), ((-2147483648), 2147483647), (0, 220), (0, 14)]) (RG := [(220, ((-128), 127)), (220, ((-2147483648), 2147483647)), (220, ((-2147483648), 2147483647)), (14, ((-2147483648), 2147483647)), (14, ((-2147483648), 2147483647)), (14, ((-2147483648), 2147483647)), (14, ((-2147483648), 2147483647)), (220, ((-2147483648), 2147483647)), (14, ((-2147483648), 2147483647)), (14, ((-2147483648), 2147483647)), (14, ((-2147483648), 2147483647)), (14, ((-2147483648), 2147483647)), (220, ((-2147483648), 2147483647)), (13, ((-2147483648), 2147483647))]) (AR := [.inl 0, .inr ((-2147483648), 2147483647), .inr (10, 10)]) (RFo := [(0, none), (1, none), (2, none), (3, none), (4, none), (5, none), (6, none), (7, none), (8, none), (9, none)]) (RGo := [(0, none), (1, none), (2, none), (3, none), (4, none), (5, none), (6, none), (7, none), (8, none), (9, none), (10, none), (11, none), (13, none)]) (RR := some (some (0, 10))) (LO := []) zxw263 (by decide +kernel) (zb_J12 (c := 0) (jc := 9) (a1 := 8) (n1 := 220) (j1 := 7) (a2 := 10) (n2 := 14) (j2 := 9) (a3 := 11) (n3 := 14) (j3 := 10) (a4 := 12) (n4 := 14) (j4 := 11) zxw263 rfl ⟨_, rfl⟩ (by decide) (by decide) (by decide) (by decide) (by decide) (by decide) (by decide) (by decide) (by decide) (by decide) rfl rfl rfl rfl (by decide +kernel)) (by
  intro va F G hva hF hG hJ
  obtain ⟨_, rfl, ⟨x1, _, rfl, xl1, xu1, ⟨x2, _, rfl, xl2, xu2, rfl⟩⟩⟩ := hva
  obtain ⟨f0, _, rfl, fl0, fu0, ⟨f1, _, rfl, fl1, fu1, ⟨f2, _, rfl, fl2, fu2, ⟨f3, _, rfl, fl3, fu3, ⟨f4, _, rfl, fl4, fu4, ⟨f5, _, rfl, fl5, fu5, ⟨f6, _, rfl, fl6, fu6, ⟨f7, _, rfl, fl7, fu7, ⟨f8, _, rfl, fl8, fu8, ⟨f9, _, rfl, fl9, fu9, rfl⟩⟩⟩⟩⟩⟩⟩⟩⟩⟩ := hF
  obtain ⟨g0, _, rfl, gr0, ⟨g1, _, rfl, gr1, ⟨g2, _, rfl, gr2, ⟨g3, _, rfl, gr3, ⟨g4, _, rfl, gr4, ⟨g5, _, rfl, gr5, ⟨g6, _, rfl, gr6, ⟨g7, _, rfl, gr7, ⟨g8, _, rfl, gr8, ⟨g9, _, rfl, gr9, ⟨g10, _, rfl, gr10, ⟨g11, _, rfl, gr11, ⟨g12, _, rfl, gr12, ⟨g13, _, rfl, gr13, rfl⟩⟩⟩⟩⟩⟩⟩⟩⟩⟩⟩⟩⟩⟩ := hG
  obtain ⟨cs0, h1, h2, h3, h4, e0, e1, e2, e3, e4, hP⟩ := hJ
  cases e0
  cases e1
  cases e2
  cases e3
  cases e4
  refine ⟨_, _, zh288, ⟨rfl, rfl, rfl, hP, by omega⟩, fun r F' G' hq => ?_⟩
  obtain ⟨v, stk', rfl, v1, v2, rfl, rfl⟩ := hq
  have hv2 : 0 ≤ v ∧ v ≤ x2 := ⟨v1, v2⟩
  exact ⟨List.forall_mem_cons.mpr ⟨rfl, List.forall_mem_cons.mpr ⟨rfl, List.forall_mem_cons.mpr ⟨rfl, List.forall_mem_cons.mpr ⟨rfl, List.forall_mem_cons.mpr ⟨rfl, List.forall_mem_cons.mpr ⟨rfl, List.forall_mem_cons.mpr ⟨rfl, List.forall_mem_cons.mpr ⟨rfl, List.forall_mem_cons.mpr ⟨rfl, List.forall_mem_cons.mpr ⟨rfl, fun _ h => absurd h List.not_mem_nil⟩⟩⟩⟩⟩⟩⟩⟩⟩⟩, List.forall_mem_cons.mpr ⟨rfl, List.forall_mem_cons.mpr ⟨rfl, List.forall_mem_cons.mpr ⟨rfl, List.forall_mem_cons.mpr ⟨rfl, List.forall_mem_cons.mpr ⟨rfl, List.forall_mem_cons.mpr ⟨rfl, List.forall_mem_cons.mpr ⟨rfl, List.forall_mem_cons.mpr ⟨rfl, List.forall_mem_cons.mpr ⟨rfl, List.forall_mem_cons.mpr ⟨rfl, List.forall_mem_cons.mpr ⟨rfl, List.forall_mem_cons.mpr ⟨rfl, List.forall_mem_cons.mpr ⟨rfl, fun _ h => absurd h List.not_mem_nil⟩⟩⟩⟩⟩⟩⟩⟩⟩⟩⟩⟩⟩, ⟨v, rfl, by show (_ : Int) ≤ v; omega, by show v ≤ (_ : Int); omega⟩, ⟨_, _, _, _, _, rfl, rfl, rfl, rfl, rfl, hP⟩⟩)
def zxNT289 : List Nat := [114, 70, 106, 104]
def zxRC289 : List zbC := [.inl 0, .inr (0, 12, 0), .inr (0, 12, 54), .inl 2]
theorem zxw289 : zb_wf z_TYs z_cl zySa zxNT289 zxRC289 = true := by decide +kernel
theorem zxo289 : z_OK z_TB z_cl z_FT z_TYs z_PH z_KX zxm303.1 zxm303.2.1 zxm303.2.2.1 zxm303.2.2.2.1 zxg289 := zb_OK (mm := zxm303) (RF := []) (RG := [(422, ((-2147483648), 2147483647)), (288, ((-2147483648), 2147483647)), (288, (0, 1000000000))]) (AR := [.inl 0, .inr (0, 287), .inl 3]) (RFo := []) (RGo := [(0, none), (2, some (288, (0, 1000000000)))]) (RR := none) (LO := []) zxw289 (by decide +kernel) (zb_Jn zxw289 (by decide +kernel)) (by
  intro va F G hva hF hG hJ
  obtain ⟨_, rfl, ⟨x1, _, rfl, xl1, xu1, ⟨_, rfl, rfl⟩⟩⟩ := hva
  have hF : F = [] := hF
  subst hF
  obtain ⟨g0, _, rfl, gr0, ⟨g1, _, rfl, gr1, ⟨g2, _, rfl, gr2, rfl⟩⟩⟩ := hG
  refine ⟨_, _, zh303, ⟨rfl, rfl, by omega, by omega⟩, fun r F' G' hq => ?_⟩
  obtain ⟨rfl, rfl, queue', far', rfl, hfar⟩ := hq
  exact ⟨fun _ h => absurd h List.not_mem_nil, List.forall_mem_cons.mpr ⟨rfl, List.forall_mem_cons.mpr ⟨fun g h => (by cases h; exact hfar), fun _ h => absurd h List.not_mem_nil⟩⟩, rfl, trivial⟩)
def zxNT290 : List Nat := [114, 70, 106, 105]
def zxRC290 : List zbC := [.inl 0, .inr (0, 12, 0), .inr (0, 12, 54), .inl 2]
theorem zxw290 : zb_wf z_TYs z_cl zySa zxNT290 zxRC290 = true := by decide +kernel
theorem zxo290 : z_OK z_TB z_cl z_FT z_TYs z_PH z_KX zxm303.1 zxm303.2.1 zxm303.2.2.1 zxm303.2.2.2.1 zxg290 := zb_OK (mm := zxm303) (RF := []) (RG := [(422, ((-2147483648), 2147483647)), (288, ((-2147483648), 2147483647)), (288, (0, 1000000000))]) (AR := [.inl 0, .inr (0, 287), .inl 3]) (RFo := []) (RGo := [(0, none), (2, some (288, (0, 1000000000)))]) (RR := none) (LO := []) zxw290 (by decide +kernel) (zb_Jn zxw290 (by decide +kernel)) (by
  intro va F G hva hF hG hJ
  obtain ⟨_, rfl, ⟨x1, _, rfl, xl1, xu1, ⟨_, rfl, rfl⟩⟩⟩ := hva
  have hF : F = [] := hF
  subst hF
  obtain ⟨g0, _, rfl, gr0, ⟨g1, _, rfl, gr1, ⟨g2, _, rfl, gr2, rfl⟩⟩⟩ := hG
  refine ⟨_, _, zh303, ⟨rfl, rfl, by omega, by omega⟩, fun r F' G' hq => ?_⟩
  obtain ⟨rfl, rfl, queue', far', rfl, hfar⟩ := hq
  exact ⟨fun _ h => absurd h List.not_mem_nil, List.forall_mem_cons.mpr ⟨rfl, List.forall_mem_cons.mpr ⟨fun g h => (by cases h; exact hfar), fun _ h => absurd h List.not_mem_nil⟩⟩, rfl, trivial⟩)
def zxNT293 : List Nat := []
def zxRC293 : List zbC := []
theorem zxw293 : zb_wf z_TYs z_cl zy0 zxNT293 zxRC293 = true := by decide +kernel
theorem zxo293 : z_OK z_TB z_cl z_FT z_TYs z_PH z_KX zxm105.1 zxm105.2.1 zxm105.2.2.1 zxm105.2.2.2.1 zxg293 := zb_OK (mm := zxm105) (RF := []) (RG := []) (AR := [.inr (0, 16777215)]) (RFo := []) (RGo := []) (RR := some (some (0, 32))) (LO := []) zxw293 (by decide +kernel) (zb_Jn zxw293 (by decide +kernel)) (by
  intro va F G hva hF hG hJ
  obtain ⟨x0, _, rfl, xl0, xu0, rfl⟩ := hva
  have hF : F = [] := hF
  subst hF
  have hG : G = [] := hG
  subst hG
  refine ⟨_, _, zh105, ⟨rfl, by omega, by omega⟩, fun r F' G' hq => ?_⟩
  obtain ⟨rfl, rfl, v, rfl, v1, v2, v3⟩ := hq
  exact ⟨fun _ h => absurd h List.not_mem_nil, fun _ h => absurd h List.not_mem_nil, ⟨v, rfl, v1, v2⟩, trivial⟩)
def zxNT399 : List Nat := [115, 73, 74, 75, 76, 77, 78, 79, 80, 81, 82, 83, 84, 85, 86]
def zxRC399 : List zbC := [.inl 0, .inr (0, 12, 3), .inr (0, 12, 14), .inr (0, 12, 15), .inr (0, 12, 16), .inr (0, 12, 17), .inr (0, 12, 18), .inr (0, 12, 19), .inr (0, 12, 20), .inr (0, 12, 21), .inr (0, 12, 22), .inr (0, 12, 23), .inr (0, 12, 24), .inr (0, 12, 25), .inr (0, 12, 26)]
theorem zxw399 : zb_wf z_TYs z_cl zyM zxNT399 zxRC399 = true := by decide +kernel
theorem zxo399 : z_OK z_TB z_cl z_FT z_TYs z_PH z_KX zxm215.1 zxm215.2.1 zxm215.2.2.1 zxm215.2.2.2.1 zxg399 := zb_OK (mm := zxm215) (RF := [((-2147483648), 2147483647), ((-2147483648), 2147483647), ((-2147483648), 2147483647), ((-2147483648), 2147483647), ((-2147483648), 2147483647), ((-2147483648), 2147483647), ((-2147483648), 2147483647), ((-2147483648), 2147483647), (0, 220), (0, 14)]) (RG := [(220, ((-128), 127)), (220, ((-2147483648), 2147483647)), (220, ((-2147483648), 2147483647)), (14, ((-2147483648), 2147483647)), (14, ((-2147483648), 2147483647)), (14, ((-2147483648), 2147483647)), (14, ((-2147483648), 2147483647)), (220, ((-2147483648), 2147483647)), (14, ((-2147483648), 2147483647)), (14, ((-2147483648), 2147483647)), (14, ((-2147483648), 2147483647)), (14, ((-2147483648), 2147483647)), (220, ((-2147483648), 2147483647)), (13, ((-2147483648), 2147483647))]) (AR := [.inl 0, .inr ((-2147483648), 2147483647)]) (RFo := [(8, some (0, 220)), (9, some (0, 14))]) (RGo := [(0, none), (12, none), (13, none)]) (RR := some none) (LO := []) zxw399 (by decide +kernel) (zb_J12 (c := 0) (jc := 9) (a1 := 8) (n1 := 220) (j1 := 7) (a2 := 10) (n2 := 14) (j2 := 9) (a3 := 11) (n3 := 14) (j3 := 10) (a4 := 12) (n4 := 14) (j4 := 11) zxw399 rfl ⟨_, rfl⟩ (by decide) (by decide) (by decide) (by decide) (by decide) (by decide) (by decide) (by decide) (by decide) (by decide) rfl rfl rfl rfl (by decide +kernel)) (by
  intro va F G hva hF hG hJ
  obtain ⟨_, rfl, ⟨x1, _, rfl, xl1, xu1, rfl⟩⟩ := hva
  obtain ⟨f0, _, rfl, fl0, fu0, ⟨f1, _, rfl, fl1, fu1, ⟨f2, _, rfl, fl2, fu2, ⟨f3, _, rfl, fl3, fu3, ⟨f4, _, rfl, fl4, fu4, ⟨f5, _, rfl, fl5, fu5, ⟨f6, _, rfl, fl6, fu6, ⟨f7, _, rfl, fl7, fu7, ⟨f8, _, rfl, fl8, fu8, ⟨f9, _, rfl, fl9, fu9, rfl⟩⟩⟩⟩⟩⟩⟩⟩⟩⟩ := hF
  obtain ⟨g0, _, rfl, gr0, ⟨g1, _, rfl, gr1, ⟨g2, _, rfl, gr2, ⟨g3, _, rfl, gr3, ⟨g4, _, rfl, gr4, ⟨g5, _, rfl, gr5, ⟨g6, _, rfl, gr6, ⟨g7, _, rfl, gr7, ⟨g8, _, rfl, gr8, ⟨g9, _, rfl, gr9, ⟨g10, _, rfl, gr10, ⟨g11, _, rfl, gr11, ⟨g12, _, rfl, gr12, ⟨g13, _, rfl, gr13, rfl⟩⟩⟩⟩⟩⟩⟩⟩⟩⟩⟩⟩⟩⟩ := hG
  obtain ⟨cs0, h1, h2, h3, h4, e0, e1, e2, e3, e4, hP⟩ := hJ
  cases e0
  cases e1
  cases e2
  cases e3
  cases e4
  refine ⟨_, _, zh215, ⟨rfl, rfl, rfl, by omega, by omega, hP⟩, fun r F' G' hq => ?_⟩
  obtain ⟨v, pl', len', fl', op', cm', wt', nb', sm', tp', cs', said', w', sl', sf', sh', st', codes', co', cf', ch', ct', rfl, rfl, rfl, hP2, t1, t2⟩ := hq
  have hcs : 0 ≤ cs' ∧ cs' ≤ 14 := by
    obtain ⟨D, cm, _, _, _, c1, c2, _⟩ := hP2
    exact ⟨c1, c2⟩
  exact ⟨List.forall_mem_cons.mpr ⟨fun x h => (by cases h; exact ⟨t1, t2⟩), List.forall_mem_cons.mpr ⟨fun x h => (by cases h; exact hcs), fun _ h => absurd h List.not_mem_nil⟩⟩, List.forall_mem_cons.mpr ⟨rfl, List.forall_mem_cons.mpr ⟨rfl, List.forall_mem_cons.mpr ⟨rfl, fun _ h => absurd h List.not_mem_nil⟩⟩⟩, ⟨v, rfl⟩, ⟨cs', codes', cf', ch', ct', rfl, rfl, rfl, rfl, rfl, hP2⟩⟩)
def zxNT415 : List Nat := [115, 73, 74, 75, 76, 77, 78, 79, 80, 81, 82, 83, 84, 85, 86]
def zxRC415 : List zbC := [.inl 0, .inr (0, 12, 3), .inr (0, 12, 14), .inr (0, 12, 15), .inr (0, 12, 16), .inr (0, 12, 17), .inr (0, 12, 18), .inr (0, 12, 19), .inr (0, 12, 20), .inr (0, 12, 21), .inr (0, 12, 22), .inr (0, 12, 23), .inr (0, 12, 24), .inr (0, 12, 25), .inr (0, 12, 26)]
theorem zxw415 : zb_wf z_TYs z_cl zyM zxNT415 zxRC415 = true := by decide +kernel
theorem zxo415 : z_OK z_TB z_cl z_FT z_TYs z_PH z_KX zxm248.1 zxm248.2.1 zxm248.2.2.1 zxm248.2.2.2.1 zxg415 := zb_OK (mm := zxm248) (RF := [((-2147483648), 2147483647), ((-2147483648), 2147483647), ((-2147483648), 2147483647), ((-2147483648), 2147483647), ((-2147483648), 2147483647), ((-2147483648), 2147483647), ((-2147483648), 2147483647), ((-2147483648), 2147483647), (0, 220), (0, 14)]) (RG := [(220, ((-128), 127)), (220, ((-2147483648), 2147483647)), (220, ((-2147483648), 2147483647)), (14, ((-2147483648), 2147483647)), (14, ((-2147483648), 2147483647)), (14, ((-2147483648), 2147483647)), (14, ((-2147483648), 2147483647)), (220, ((-2147483648), 2147483647)), (14, ((-2147483648), 2147483647)), (14, ((-2147483648), 2147483647)), (14, ((-2147483648), 2147483647)), (14, ((-2147483648), 2147483647)), (220, ((-2147483648), 2147483647)), (13, ((-2147483648), 2147483647))]) (AR := [.inl 0, .inr ((-2147483648), 2147483647)]) (RFo := [(0, none), (1, none), (2, none), (3, none), (4, none), (5, none), (6, none), (7, none), (8, none), (9, none)]) (RGo := [(0, none), (1, none), (2, none), (3, none), (4, none), (5, none), (6, none), (7, none), (8, none), (9, none), (10, none), (11, none), (13, none)]) (RR := some (some (0, 1))) (LO := [((0, 12, 48, none), .inl (.ofNat 0, .ofNat 28))]) zxw415 (by decide +kernel) (zb_J12 (c := 0) (jc := 9) (a1 := 8) (n1 := 220) (j1 := 7) (a2 := 10) (n2 := 14) (j2 := 9) (a3 := 11) (n3 := 14) (j3 := 10) (a4 := 12) (n4 := 14) (j4 := 11) zxw415 rfl ⟨_, rfl⟩ (by decide) (by decide) (by decide) (by decide) (by decide) (by decide) (by decide) (by decide) (by decide) (by decide) rfl rfl rfl rfl (by decide +kernel)) (by
  intro va F G hva hF hG hJ
  obtain ⟨_, rfl, ⟨x1, _, rfl, xl1, xu1, rfl⟩⟩ := hva
  obtain ⟨f0, _, rfl, fl0, fu0, ⟨f1, _, rfl, fl1, fu1, ⟨f2, _, rfl, fl2, fu2, ⟨f3, _, rfl, fl3, fu3, ⟨f4, _, rfl, fl4, fu4, ⟨f5, _, rfl, fl5, fu5, ⟨f6, _, rfl, fl6, fu6, ⟨f7, _, rfl, fl7, fu7, ⟨f8, _, rfl, fl8, fu8, ⟨f9, _, rfl, fl9, fu9, rfl⟩⟩⟩⟩⟩⟩⟩⟩⟩⟩ := hF
  obtain ⟨g0, _, rfl, gr0, ⟨g1, _, rfl, gr1, ⟨g2, _, rfl, gr2, ⟨g3, _, rfl, gr3, ⟨g4, _, rfl, gr4, ⟨g5, _, rfl, gr5, ⟨g6, _, rfl, gr6, ⟨g7, _, rfl, gr7, ⟨g8, _, rfl, gr8, ⟨g9, _, rfl, gr9, ⟨g10, _, rfl, gr10, ⟨g11, _, rfl, gr11, ⟨g12, _, rfl, gr12, ⟨g13, _, rfl, gr13, rfl⟩⟩⟩⟩⟩⟩⟩⟩⟩⟩⟩⟩⟩⟩ := hG
  obtain ⟨cs0, h1, h2, h3, h4, e0, e1, e2, e3, e4, hP⟩ := hJ
  cases e0
  cases e1
  cases e2
  cases e3
  cases e4
  refine ⟨_, _, zh248, ⟨rfl, rfl, rfl, hP⟩, fun r F' G' hq => ?_⟩
  obtain ⟨v, stk', rfl, hv, rfl, rfl⟩ := hq
  have hv2 : 0 ≤ v ∧ v ≤ 1 := by omega
  exact ⟨List.forall_mem_cons.mpr ⟨rfl, List.forall_mem_cons.mpr ⟨rfl, List.forall_mem_cons.mpr ⟨rfl, List.forall_mem_cons.mpr ⟨rfl, List.forall_mem_cons.mpr ⟨rfl, List.forall_mem_cons.mpr ⟨rfl, List.forall_mem_cons.mpr ⟨rfl, List.forall_mem_cons.mpr ⟨rfl, List.forall_mem_cons.mpr ⟨rfl, List.forall_mem_cons.mpr ⟨rfl, fun _ h => absurd h List.not_mem_nil⟩⟩⟩⟩⟩⟩⟩⟩⟩⟩, List.forall_mem_cons.mpr ⟨rfl, List.forall_mem_cons.mpr ⟨rfl, List.forall_mem_cons.mpr ⟨rfl, List.forall_mem_cons.mpr ⟨rfl, List.forall_mem_cons.mpr ⟨rfl, List.forall_mem_cons.mpr ⟨rfl, List.forall_mem_cons.mpr ⟨rfl, List.forall_mem_cons.mpr ⟨rfl, List.forall_mem_cons.mpr ⟨rfl, List.forall_mem_cons.mpr ⟨rfl, List.forall_mem_cons.mpr ⟨rfl, List.forall_mem_cons.mpr ⟨rfl, List.forall_mem_cons.mpr ⟨rfl, fun _ h => absurd h List.not_mem_nil⟩⟩⟩⟩⟩⟩⟩⟩⟩⟩⟩⟩⟩, ⟨v, rfl, by show (_ : Int) ≤ v; omega, by show v ≤ (_ : Int); omega⟩, ⟨_, _, _, _, _, rfl, rfl, rfl, rfl, rfl, hP⟩⟩)
def zxNT425 : List Nat := [115, 87]
def zxRC425 : List zbC := [.inl 0, .inr (0, 12, 28)]
theorem zxw425 : zb_wf z_TYs z_cl zyFi zxNT425 zxRC425 = true := by decide +kernel
theorem zxo425 : z_OK z_TB z_cl z_FT z_TYs z_PH z_KX zxm256.1 zxm256.2.1 zxm256.2.2.1 zxm256.2.2.2.1 zxg425 := zb_OK (mm := zxm256) (RF := []) (RG := [(24, (0, 16777215))]) (AR := [.inl 0, .inr (0, 23)]) (RFo := []) (RGo := [(0, none)]) (RR := some (some (0, 16777215))) (LO := []) zxw425 (by decide +kernel) (zb_Jn zxw425 (by decide +kernel)) (by
  intro va F G hva hF hG hJ
  obtain ⟨_, rfl, ⟨x1, _, rfl, xl1, xu1, rfl⟩⟩ := hva
  have hF : F = [] := hF
  subst hF
  obtain ⟨g0, _, rfl, gr0, rfl⟩ := hG
  refine ⟨_, _, zh256, ⟨rfl, rfl, by omega, by omega, fun k k1 k2 => ⟨(by have h9 : (0 : Int) ≤ g0 k ∧ g0 k ≤ (16777215 : Int) := gr0 k k1 k2; omega), (by have h9 : (0 : Int) ≤ g0 k ∧ g0 k ≤ (16777215 : Int) := gr0 k k1 k2; omega)⟩⟩, fun r F' G' hq => ?_⟩
  obtain ⟨rfl, rfl, v, rfl, v1, v2⟩ := hq
  exact ⟨fun _ h => absurd h List.not_mem_nil, List.forall_mem_cons.mpr ⟨rfl, fun _ h => absurd h List.not_mem_nil⟩, ⟨v, rfl, v1, by show v ≤ (16777215 : Int); omega⟩, trivial⟩)
def zxNT434 : List Nat := [115, 88, 89, 92, 93, 94, 87]
def zxRC434 : List zbC := [.inl 0, .inr (0, 12, 34), .inr (0, 12, 35), .inr (0, 12, 38), .inr (0, 12, 39), .inr (0, 12, 40), .inr (0, 12, 28)]
theorem zxw434 : zb_wf z_TYs z_cl zyWa zxNT434 zxRC434 = true := by decide +kernel
theorem zxo434 : z_OK z_TB z_cl z_FT z_TYs z_PH z_KX zxm268.1 zxm268.2.1 zxm268.2.2.1 zxm268.2.2.2.1 zxg434 := zb_OK (mm := zxm268) (RF := [(0, 16777215), (0, 12), ((-2147483648), 2147483647), (0, 8)]) (RG := [(12, ((-66), 190)), (12, ((-66), 190)), (8, (0, 7)), (8, ((-2147483648), 2147483647)), (8, ((-2147483648), 2147483647)), (24, (0, 16777215))]) (AR := [.inl 0, .inr ((-2147483648), 1000000)]) (RFo := [(0, none), (1, none), (2, none), (3, some (0, 8))]) (RGo := [(0, none), (1, none), (2, some (8, (0, 7))), (5, none)]) (RR := some none) (LO := []) zxw434 (by decide +kernel) (zb_Jn zxw434 (by decide +kernel)) (by
  intro va F G hva hF hG hJ
  obtain ⟨_, rfl, ⟨x1, _, rfl, xl1, xu1, rfl⟩⟩ := hva
  obtain ⟨f0, _, rfl, fl0, fu0, ⟨f1, _, rfl, fl1, fu1, ⟨f2, _, rfl, fl2, fu2, ⟨f3, _, rfl, fl3, fu3, rfl⟩⟩⟩⟩ := hF
  obtain ⟨g0, _, rfl, gr0, ⟨g1, _, rfl, gr1, ⟨g2, _, rfl, gr2, ⟨g3, _, rfl, gr3, ⟨g4, _, rfl, gr4, ⟨g5, _, rfl, gr5, rfl⟩⟩⟩⟩⟩⟩ := hG
  refine ⟨_, _, zh268, ⟨rfl, rfl, rfl, by omega, by omega, by omega, fun j j1 j2 => ⟨(by have h9 : (0 : Int) ≤ g2 j ∧ g2 j ≤ (7 : Int) := gr2 j j1 j2; omega), (by have h9 : (0 : Int) ≤ g2 j ∧ g2 j ≤ (7 : Int) := gr2 j j1 j2; omega)⟩⟩, fun r F' G' hq => ?_⟩
  obtain ⟨v, nm', na', sf', ff', rfl, rfl, rfl, n1, n2, n3⟩ := hq
  exact ⟨List.forall_mem_cons.mpr ⟨rfl, List.forall_mem_cons.mpr ⟨rfl, List.forall_mem_cons.mpr ⟨rfl, List.forall_mem_cons.mpr ⟨fun x h => (by cases h; exact ⟨n1, n2⟩), fun _ h => absurd h List.not_mem_nil⟩⟩⟩⟩, List.forall_mem_cons.mpr ⟨rfl, List.forall_mem_cons.mpr ⟨rfl, List.forall_mem_cons.mpr ⟨fun g h => (by cases h; exact n3), List.forall_mem_cons.mpr ⟨rfl, fun _ h => absurd h List.not_mem_nil⟩⟩⟩⟩, ⟨v, rfl⟩, trivial⟩)
def zxNT450 : List Nat := [115, 96, 95, 98]
def zxRC450 : List zbC := [.inl 0, .inr (0, 12, 43), .inr (0, 12, 42), .inr (0, 12, 45)]
theorem zxw450 : zb_wf z_TYs z_cl zyHa zxNT450 zxRC450 = true := by decide +kernel
theorem zxo450 : z_OK z_TB z_cl z_FT z_TYs z_PH z_KX zxm282.1 zxm282.2.1 zxm282.2.2.1 zxm282.2.2.2.1 zxg450 := zb_OK (mm := zxm282) (RF := []) (RG := [(288, (0, 24)), (6912, ((-10990), 24239)), (12, (0, 1000000000))]) (AR := [.inl 0, .inr (0, 287), .inr (0, 12)]) (RFo := []) (RGo := [(0, none), (1, none), (2, none)]) (RR := some (some (0, 1))) (LO := []) zxw450 (by decide +kernel) (zb_Jn zxw450 (by decide +kernel)) (by
  intro va F G hva hF hG hJ
  obtain ⟨_, rfl, ⟨x1, _, rfl, xl1, xu1, ⟨x2, _, rfl, xl2, xu2, rfl⟩⟩⟩ := hva
  have hF : F = [] := hF
  subst hF
  obtain ⟨g0, _, rfl, gr0, ⟨g1, _, rfl, gr1, ⟨g2, _, rfl, gr2, rfl⟩⟩⟩ := hG
  refine ⟨_, _, zh282, ⟨rfl, rfl, by omega, by omega, by omega, by omega, fun k k1 k2 => ⟨(by have h9 : (0 : Int) ≤ g0 k ∧ g0 k ≤ (24 : Int) := gr0 k k1 k2; omega), (by have h9 : (0 : Int) ≤ g0 k ∧ g0 k ≤ (24 : Int) := gr0 k k1 k2; omega)⟩⟩, fun r F' G' hq => ?_⟩
  obtain ⟨rfl, rfl, hx⟩ := hq
  exact ⟨fun _ h => absurd h List.not_mem_nil, List.forall_mem_cons.mpr ⟨rfl, List.forall_mem_cons.mpr ⟨rfl, List.forall_mem_cons.mpr ⟨rfl, fun _ h => absurd h List.not_mem_nil⟩⟩⟩, (by rcases hx with rfl | rfl; exact ⟨0, rfl, by decide, by decide⟩; exact ⟨1, rfl, by decide, by decide⟩), trivial⟩)
def zxNT454 : List Nat := [115, 70, 100]
def zxRC454 : List zbC := [.inl 0, .inr (0, 12, 0), .inr (0, 12, 47)]
theorem zxw454 : zb_wf z_TYs z_cl zyLe zxNT454 zxRC454 = true := by decide +kernel
theorem zxo454 : z_OK z_TB z_cl z_FT z_TYs z_PH z_KX zxm285.1 zxm285.2.1 zxm285.2.2.1 zxm285.2.2.2.1 zxg454 := zb_OK (mm := zxm285) (RF := [(0, 28)]) (RG := [(422, ((-2147483648), 2147483647)), (28, (0, 16777215))]) (AR := [.inl 0, .inr (1, 8)]) (RFo := [(0, none)]) (RGo := [(0, none), (1, none)]) (RR := some (some ((-1), 16777215))) (LO := []) zxw454 (by decide +kernel) (zb_Jn zxw454 (by decide +kernel)) (by
  intro va F G hva hF hG hJ
  obtain ⟨_, rfl, ⟨x1, _, rfl, xl1, xu1, rfl⟩⟩ := hva
  obtain ⟨f0, _, rfl, fl0, fu0, rfl⟩ := hF
  obtain ⟨g0, _, rfl, gr0, ⟨g1, _, rfl, gr1, rfl⟩⟩ := hG
  refine ⟨_, _, zh285, ⟨rfl, rfl, rfl, by omega, by omega, by omega⟩, fun r F' G' hq => ?_⟩
  obtain ⟨rfl, rfl, v, rfl, v1, v2⟩ := hq
  exact ⟨List.forall_mem_cons.mpr ⟨rfl, fun _ h => absurd h List.not_mem_nil⟩, List.forall_mem_cons.mpr ⟨rfl, List.forall_mem_cons.mpr ⟨rfl, fun _ h => absurd h List.not_mem_nil⟩⟩, ⟨v, rfl, v1, by show v ≤ (16777215 : Int); omega⟩, trivial⟩)
def zxNT457 : List Nat := [115, 73, 74, 75, 76, 77, 78, 79, 80, 81, 82, 83, 84, 85, 86]
def zxRC457 : List zbC := [.inl 0, .inr (0, 12, 3), .inr (0, 12, 14), .inr (0, 12, 15), .inr (0, 12, 16), .inr (0, 12, 17), .inr (0, 12, 18), .inr (0, 12, 19), .inr (0, 12, 20), .inr (0, 12, 21), .inr (0, 12, 22), .inr (0, 12, 23), .inr (0, 12, 24), .inr (0, 12, 25), .inr (0, 12, 26)]
theorem zxw457 : zb_wf z_TYs z_cl zyM zxNT457 zxRC457 = true := by decide +kernel
theorem zxo457 : z_OK z_TB z_cl z_FT z_TYs z_PH z_KX zxm288.1 zxm288.2.1 zxm288.2.2.1 zxm288.2.2.2.1 zxg457 := zb_OK (mm := zxm288) (RF := [((-2147483648), 2147483647), ((-2147483648), 2147483647), ((-2147483648), 2147483647), ((-2147483648), 2147483647), ((-2147483648), 2147483647), ((-2147483648), 2147483647), ((-2147483648), 2147483647), ((-2147483648), 2147483647), (0, 220), (0, 14)]) (RG := [(220, ((-128), 127)), (220, ((-2147483648), 2147483647)), (220, ((-2147483648), 2147483647)), (14, ((-2147483648), 2147483647)), (14, ((-2147483648), 2147483647)), (14, ((-2147483648), 2147483647)), (14, ((-2147483648), 2147483647)), (220, ((-2147483648), 2147483647)), (14, ((-2147483648), 2147483647)), (14, ((-2147483648), 2147483647)), (14, ((-2147483648), 2147483647)), (14, ((-2147483648), 2147483647)), (220, ((-2147483648), 2147483647)), (13, ((-2147483648), 2147483647))]) (AR := [.inl 0, .inr ((-2147483648), 2147483647), .inr (999, 999)]) (RFo := [(0, none), (1, none), (2, none), (3, none), (4, none), (5, none), (6, none), (7, none), (8, none), (9, none)]) (RGo := [(0, none), (1, none), (2, none), (3, none), (4, none), (5, none), (6, none), (7, none), (8, none), (9, none), (10, none), (11, none), (13, none)]) (RR := some (some (0, 999))) (LO := []) zxw457 (by decide +kernel) (zb_J12 (c := 0) (jc := 9) (a1 := 8) (n1 := 220) (j1 := 7) (a2 := 10) (n2 := 14) (j2 := 9) (a3 := 11) (n3 := 14) (j3 := 10) (a4 := 12) (n4 := 14) (j4 := 11) zxw457 rfl ⟨_, rfl⟩ (by decide) (by decide) (by decide) (by decide) (by decide) (by decide) (by decide) (by decide) (by decide) (by decide) rfl rfl rfl rfl (by decide +kernel)) (by
  intro va F G hva hF hG hJ
  obtain ⟨_, rfl, ⟨x1, _, rfl, xl1, xu1, ⟨x2, _, rfl, xl2, xu2, rfl⟩⟩⟩ := hva
  obtain ⟨f0, _, rfl, fl0, fu0, ⟨f1, _, rfl, fl1, fu1, ⟨f2, _, rfl, fl2, fu2, ⟨f3, _, rfl, fl3, fu3, ⟨f4, _, rfl, fl4, fu4, ⟨f5, _, rfl, fl5, fu5, ⟨f6, _, rfl, fl6, fu6, ⟨f7, _, rfl, fl7, fu7, ⟨f8, _, rfl, fl8, fu8, ⟨f9, _, rfl, fl9, fu9, rfl⟩⟩⟩⟩⟩⟩⟩⟩⟩⟩ := hF
  obtain ⟨g0, _, rfl, gr0, ⟨g1, _, rfl, gr1, ⟨g2, _, rfl, gr2, ⟨g3, _, rfl, gr3, ⟨g4, _, rfl, gr4, ⟨g5, _, rfl, gr5, ⟨g6, _, rfl, gr6, ⟨g7, _, rfl, gr7, ⟨g8, _, rfl, gr8, ⟨g9, _, rfl, gr9, ⟨g10, _, rfl, gr10, ⟨g11, _, rfl, gr11, ⟨g12, _, rfl, gr12, ⟨g13, _, rfl, gr13, rfl⟩⟩⟩⟩⟩⟩⟩⟩⟩⟩⟩⟩⟩⟩ := hG
  obtain ⟨cs0, h1, h2, h3, h4, e0, e1, e2, e3, e4, hP⟩ := hJ
  cases e0
  cases e1
  cases e2
  cases e3
  cases e4
  refine ⟨_, _, zh288, ⟨rfl, rfl, rfl, hP, by omega⟩, fun r F' G' hq => ?_⟩
  obtain ⟨v, stk', rfl, v1, v2, rfl, rfl⟩ := hq
  have hv2 : 0 ≤ v ∧ v ≤ x2 := ⟨v1, v2⟩
  exact ⟨List.forall_mem_cons.mpr ⟨rfl, List.forall_mem_cons.mpr ⟨rfl, List.forall_mem_cons.mpr ⟨rfl, List.forall_mem_cons.mpr ⟨rfl, List.forall_mem_cons.mpr ⟨rfl, List.forall_mem_cons.mpr ⟨rfl, List.forall_mem_cons.mpr ⟨rfl, List.forall_mem_cons.mpr ⟨rfl, List.forall_mem_cons.mpr ⟨rfl, List.forall_mem_cons.mpr ⟨rfl, fun _ h => absurd h List.not_mem_nil⟩⟩⟩⟩⟩⟩⟩⟩⟩⟩, List.forall_mem_cons.mpr ⟨rfl, List.forall_mem_cons.mpr ⟨rfl, List.forall_mem_cons.mpr ⟨rfl, List.forall_mem_cons.mpr ⟨rfl, List.forall_mem_cons.mpr ⟨rfl, List.forall_mem_cons.mpr ⟨rfl, List.forall_mem_cons.mpr ⟨rfl, List.forall_mem_cons.mpr ⟨rfl, List.forall_mem_cons.mpr ⟨rfl, List.forall_mem_cons.mpr ⟨rfl, List.forall_mem_cons.mpr ⟨rfl, List.forall_mem_cons.mpr ⟨rfl, List.forall_mem_cons.mpr ⟨rfl, fun _ h => absurd h List.not_mem_nil⟩⟩⟩⟩⟩⟩⟩⟩⟩⟩⟩⟩⟩, ⟨v, rfl, by show (_ : Int) ≤ v; omega, by show v ≤ (_ : Int); omega⟩, ⟨_, _, _, _, _, rfl, rfl, rfl, rfl, rfl, hP⟩⟩)
def zxNT458 : List Nat := [115, 73, 74, 75, 76, 77, 78, 79, 80, 81, 82, 83, 84, 85, 86]
def zxRC458 : List zbC := [.inl 0, .inr (0, 12, 3), .inr (0, 12, 14), .inr (0, 12, 15), .inr (0, 12, 16), .inr (0, 12, 17), .inr (0, 12, 18), .inr (0, 12, 19), .inr (0, 12, 20), .inr (0, 12, 21), .inr (0, 12, 22), .inr (0, 12, 23), .inr (0, 12, 24), .inr (0, 12, 25), .inr (0, 12, 26)]
theorem zxw458 : zb_wf z_TYs z_cl zyM zxNT458 zxRC458 = true := by decide +kernel
theorem zxo458 : z_OK z_TB z_cl z_FT z_TYs z_PH z_KX zxm288.1 zxm288.2.1 zxm288.2.2.1 zxm288.2.2.2.1 zxg458 := zb_OK (mm := zxm288) (RF := [((-2147483648), 2147483647), ((-2147483648), 2147483647), ((-2147483648), 2147483647), ((-2147483648), 2147483647), ((-2147483648), 2147483647), ((-2147483648), 2147483647), ((-2147483648), 2147483647), ((-2147483648), 2147483647), (0, 220), (0, 14)]) (RG := [(220, ((-128), 127)), (220, ((-2147483648), 2147483647)), (220, ((-2147483648), 2147483647)), (14, ((-2147483648), 2147483647)), (14, ((-2147483648), 2147483647)), (14, ((-2147483648), 2147483647)), (14, ((-2147483648), 2147483647)), (220, ((-2147483648), 2147483647)), (14, ((-2147483648), 2147483647)), (14, ((-2147483648), 2147483647)), (14, ((-2147483648), 2147483647)), (14, ((-2147483648), 2147483647)), (220, ((-2147483648), 2147483647)), (13, ((-2147483648), 2147483647))]) (AR := [.inl 0, .inr ((-2147483648), 2147483647), .inr (99, 99)]) (RFo := [(0, none), (1, none), (2, none), (3, none), (4, none), (5, none), (6, none), (7, none), (8, none), (9, none)]) (RGo := [(0, none), (1, none), (2, none), (3, none), (4, none), (5, none), (6, none), (7, none), (8, none), (9, none), (10, none), (11, none), (13, none)]) (RR := some (some (0, 99))) (LO := []) zxw458 (by decide +kernel) (zb_J12 (c := 0) (jc := 9) (a1 := 8) (n1 := 220) (j1 := 7) (a2 := 10) (n2 := 14) (j2 := 9) (a3 := 11) (n3 := 14) (j3 := 10) (a4 := 12) (n4 := 14) (j4 := 11) zxw458 rfl ⟨_, rfl⟩ (by decide) (by decide) (by decide) (by decide) (by decide) (by decide) (by decide) (by decide) (by decide) (by decide) rfl rfl rfl rfl (by decide +kernel)) (by
  intro va F G hva hF hG hJ
  obtain ⟨_, rfl, ⟨x1, _, rfl, xl1, xu1, ⟨x2, _, rfl, xl2, xu2, rfl⟩⟩⟩ := hva
  obtain ⟨f0, _, rfl, fl0, fu0, ⟨f1, _, rfl, fl1, fu1, ⟨f2, _, rfl, fl2, fu2, ⟨f3, _, rfl, fl3, fu3, ⟨f4, _, rfl, fl4, fu4, ⟨f5, _, rfl, fl5, fu5, ⟨f6, _, rfl, fl6, fu6, ⟨f7, _, rfl, fl7, fu7, ⟨f8, _, rfl, fl8, fu8, ⟨f9, _, rfl, fl9, fu9, rfl⟩⟩⟩⟩⟩⟩⟩⟩⟩⟩ := hF
  obtain ⟨g0, _, rfl, gr0, ⟨g1, _, rfl, gr1, ⟨g2, _, rfl, gr2, ⟨g3, _, rfl, gr3, ⟨g4, _, rfl, gr4, ⟨g5, _, rfl, gr5, ⟨g6, _, rfl, gr6, ⟨g7, _, rfl, gr7, ⟨g8, _, rfl, gr8, ⟨g9, _, rfl, gr9, ⟨g10, _, rfl, gr10, ⟨g11, _, rfl, gr11, ⟨g12, _, rfl, gr12, ⟨g13, _, rfl, gr13, rfl⟩⟩⟩⟩⟩⟩⟩⟩⟩⟩⟩⟩⟩⟩ := hG
  obtain ⟨cs0, h1, h2, h3, h4, e0, e1, e2, e3, e4, hP⟩ := hJ
  cases e0
  cases e1
  cases e2
  cases e3
  cases e4
  refine ⟨_, _, zh288, ⟨rfl, rfl, rfl, hP, by omega⟩, fun r F' G' hq => ?_⟩
  obtain ⟨v, stk', rfl, v1, v2, rfl, rfl⟩ := hq
  have hv2 : 0 ≤ v ∧ v ≤ x2 := ⟨v1, v2⟩
  exact ⟨List.forall_mem_cons.mpr ⟨rfl, List.forall_mem_cons.mpr ⟨rfl, List.forall_mem_cons.mpr ⟨rfl, List.forall_mem_cons.mpr ⟨rfl, List.forall_mem_cons.mpr ⟨rfl, List.forall_mem_cons.mpr ⟨rfl, List.forall_mem_cons.mpr ⟨rfl, List.forall_mem_cons.mpr ⟨rfl, List.forall_mem_cons.mpr ⟨rfl, List.forall_mem_cons.mpr ⟨rfl, fun _ h => absurd h List.not_mem_nil⟩⟩⟩⟩⟩⟩⟩⟩⟩⟩, List.forall_mem_cons.mpr ⟨rfl, List.forall_mem_cons.mpr ⟨rfl, List.forall_mem_cons.mpr ⟨rfl, List.forall_mem_cons.mpr ⟨rfl, List.forall_mem_cons.mpr ⟨rfl, List.forall_mem_cons.mpr ⟨rfl, List.forall_mem_cons.mpr ⟨rfl, List.forall_mem_cons.mpr ⟨rfl, List.forall_mem_cons.mpr ⟨rfl, List.forall_mem_cons.mpr ⟨rfl, List.forall_mem_cons.mpr ⟨rfl, List.forall_mem_cons.mpr ⟨rfl, List.forall_mem_cons.mpr ⟨rfl, fun _ h => absurd h List.not_mem_nil⟩⟩⟩⟩⟩⟩⟩⟩⟩⟩⟩⟩⟩, ⟨v, rfl, by show (_ : Int) ≤ v; omega, by show v ≤ (_ : Int); omega⟩, ⟨_, _, _, _, _, rfl, rfl, rfl, rfl, rfl, hP⟩⟩)
def zxNT461 : List Nat := [115, 73, 74, 75, 76, 77, 78, 79, 80, 81, 82, 83, 84, 85, 86]
def zxRC461 : List zbC := [.inl 0, .inr (0, 12, 3), .inr (0, 12, 14), .inr (0, 12, 15), .inr (0, 12, 16), .inr (0, 12, 17), .inr (0, 12, 18), .inr (0, 12, 19), .inr (0, 12, 20), .inr (0, 12, 21), .inr (0, 12, 22), .inr (0, 12, 23), .inr (0, 12, 24), .inr (0, 12, 25), .inr (0, 12, 26)]
theorem zxw461 : zb_wf z_TYs z_cl zyM zxNT461 zxRC461 = true := by decide +kernel
theorem zxo461 : z_OK z_TB z_cl z_FT z_TYs z_PH z_KX zxm288.1 zxm288.2.1 zxm288.2.2.1 zxm288.2.2.2.1 zxg461 := zb_OK (mm := zxm288) (RF := [((-2147483648), 2147483647), ((-2147483648), 2147483647), ((-2147483648), 2147483647), ((-2147483648), 2147483647), ((-2147483648), 2147483647), ((-2147483648), 2147483647), ((-2147483648), 2147483647), ((-2147483648), 2147483647), (0, 220), (0, 14)]) (RG := [(220, ((-128), 127)), (220, ((-2147483648), 2147483647)), (220, ((-2147483648), 2147483647)), (14, ((-2147483648), 2147483647)), (14, ((-2147483648), 2147483647)), (14, ((-2147483648), 2147483647)), (14, ((-2147483648), 2147483647)), (220, ((-2147483648), 2147483647)), (14, ((-2147483648), 2147483647)), (14, ((-2147483648), 2147483647)), (14, ((-2147483648), 2147483647)), (14, ((-2147483648), 2147483647)), (220, ((-2147483648), 2147483647)), (13, ((-2147483648), 2147483647))]) (AR := [.inl 0, .inr ((-2147483648), 2147483647), .inr (10, 10)]) (RFo := [(0, none), (1, none), (2, none), (3, none), (4, none), (5, none), (6, none), (7, none), (8, none), (9, none)]) (RGo := [(0, none), (1, none), (2, none), (3, none), (4, none), (5, none), (6, none), (7, none), (8, none), (9, none), (10, none), (11, none), (13, none)]) (RR := some (some (0, 10))) (LO := []) zxw461 (by decide +kernel) (zb_J12 (c := 0) (jc := 9) (a1 := 8) (n1 := 220) (j1 := 7) (a2 := 10) (n2 := 14) (j2 := 9) (a3 := 11) (n3 := 14) (j3 := 10) (a4 := 12) (n4 := 14) (j4 := 11) zxw461 rfl ⟨_, rfl⟩ (by decide) (by decide) (by decide) (by decide) (by decide) (by decide) (by decide) (by decide) (by decide) (by decide) rfl rfl rfl rfl (by decide +kernel)) (by
  intro va F G hva hF hG hJ
  obtain ⟨_, rfl, ⟨x1, _, rfl, xl1, xu1, ⟨x2, _, rfl, xl2, xu2, rfl⟩⟩⟩ := hva
  obtain ⟨f0, _, rfl, fl0, fu0, ⟨f1, _, rfl, fl1, fu1, ⟨f2, _, rfl, fl2, fu2, ⟨f3, _, rfl, fl3, fu3, ⟨f4, _, rfl, fl4, fu4, ⟨f5, _, rfl, fl5, fu5, ⟨f6, _, rfl, fl6, fu6, ⟨f7, _, rfl, fl7, fu7, ⟨f8, _, rfl, fl8, fu8, ⟨f9, _, rfl, fl9, fu9, rfl⟩⟩⟩⟩⟩⟩⟩⟩⟩⟩ := hF
  obtain ⟨g0, _, rfl, gr0, ⟨g1, _, rfl, gr1, ⟨g2, _, rfl, gr2, ⟨g3, _, rfl, gr3, ⟨g4, _, rfl, gr4, ⟨g5, _, rfl, gr5, ⟨g6, _, rfl, gr6, ⟨g7, _, rfl, gr7, ⟨g8, _, rfl, gr8, ⟨g9, _, rfl, gr9, ⟨g10, _, rfl, gr10, ⟨g11, _, rfl, gr11, ⟨g12, _, rfl, gr12, ⟨g13, _, rfl, gr13, rfl⟩⟩⟩⟩⟩⟩⟩⟩⟩⟩⟩⟩⟩⟩ := hG
  obtain ⟨cs0, h1, h2, h3, h4, e0, e1, e2, e3, e4, hP⟩ := hJ
  cases e0
  cases e1
  cases e2
  cases e3
  cases e4
  refine ⟨_, _, zh288, ⟨rfl, rfl, rfl, hP, by omega⟩, fun r F' G' hq => ?_⟩
  obtain ⟨v, stk', rfl, v1, v2, rfl, rfl⟩ := hq
  have hv2 : 0 ≤ v ∧ v ≤ x2 := ⟨v1, v2⟩
  exact ⟨List.forall_mem_cons.mpr ⟨rfl, List.forall_mem_cons.mpr ⟨rfl, List.forall_mem_cons.mpr ⟨rfl, List.forall_mem_cons.mpr ⟨rfl, List.forall_mem_cons.mpr ⟨rfl, List.forall_mem_cons.mpr ⟨rfl, List.forall_mem_cons.mpr ⟨rfl, List.forall_mem_cons.mpr ⟨rfl, List.forall_mem_cons.mpr ⟨rfl, List.forall_mem_cons.mpr ⟨rfl, fun _ h => absurd h List.not_mem_nil⟩⟩⟩⟩⟩⟩⟩⟩⟩⟩, List.forall_mem_cons.mpr ⟨rfl, List.forall_mem_cons.mpr ⟨rfl, List.forall_mem_cons.mpr ⟨rfl, List.forall_mem_cons.mpr ⟨rfl, List.forall_mem_cons.mpr ⟨rfl, List.forall_mem_cons.mpr ⟨rfl, List.forall_mem_cons.mpr ⟨rfl, List.forall_mem_cons.mpr ⟨rfl, List.forall_mem_cons.mpr ⟨rfl, List.forall_mem_cons.mpr ⟨rfl, List.forall_mem_cons.mpr ⟨rfl, List.forall_mem_cons.mpr ⟨rfl, List.forall_mem_cons.mpr ⟨rfl, fun _ h => absurd h List.not_mem_nil⟩⟩⟩⟩⟩⟩⟩⟩⟩⟩⟩⟩⟩, ⟨v, rfl, by show (_ : Int) ≤ v; omega, by show v ≤ (_ : Int); omega⟩, ⟨_, _, _, _, _, rfl, rfl, rfl, rfl, rfl, hP⟩⟩)
def zxNT475 : List Nat := [115, 70, 106, 104]
def zxRC475 : List zbC := [.inl 0, .inr (0, 12, 0), .inr (0, 12, 54), .inl 2]
theorem zxw475 : zb_wf z_TYs z_cl zySa zxNT475 zxRC475 = true := by decide +kernel
theorem zxo475 : z_OK z_TB z_cl z_FT z_TYs z_PH z_KX zxm303.1 zxm303.2.1 zxm303.2.2.1 zxm303.2.2.2.1 zxg475 := zb_OK (mm := zxm303) (RF := []) (RG := [(422, ((-2147483648), 2147483647)), (288, ((-2147483648), 2147483647)), (288, (0, 1000000000))]) (AR := [.inl 0, .inr (0, 287), .inl 3]) (RFo := []) (RGo := [(0, none), (2, some (288, (0, 1000000000)))]) (RR := none) (LO := []) zxw475 (by decide +kernel) (zb_Jn zxw475 (by decide +kernel)) (by
  intro va F G hva hF hG hJ
  obtain ⟨_, rfl, ⟨x1, _, rfl, xl1, xu1, ⟨_, rfl, rfl⟩⟩⟩ := hva
  have hF : F = [] := hF
  subst hF
  obtain ⟨g0, _, rfl, gr0, ⟨g1, _, rfl, gr1, ⟨g2, _, rfl, gr2, rfl⟩⟩⟩ := hG
  refine ⟨_, _, zh303, ⟨rfl, rfl, by omega, by omega⟩, fun r F' G' hq => ?_⟩
  obtain ⟨rfl, rfl, queue', far', rfl, hfar⟩ := hq
  exact ⟨fun _ h => absurd h List.not_mem_nil, List.forall_mem_cons.mpr ⟨rfl, List.forall_mem_cons.mpr ⟨fun g h => (by cases h; exact hfar), fun _ h => absurd h List.not_mem_nil⟩⟩, rfl, trivial⟩)
def zxNT476 : List Nat := [115, 70, 106, 105]
def zxRC476 : List zbC := [.inl 0, .inr (0, 12, 0), .inr (0, 12, 54), .inl 2]
theorem zxw476 : zb_wf z_TYs z_cl zySa zxNT476 zxRC476 = true := by decide +kernel
theorem zxo476 : z_OK z_TB z_cl z_FT z_TYs z_PH z_KX zxm303.1 zxm303.2.1 zxm303.2.2.1 zxm303.2.2.2.1 zxg476 := zb_OK (mm := zxm303) (RF := []) (RG := [(422, ((-2147483648), 2147483647)), (288, ((-2147483648), 2147483647)), (288, (0, 1000000000))]) (AR := [.inl 0, .inr (0, 287), .inl 3]) (RFo := []) (RGo := [(0, none), (2, some (288, (0, 1000000000)))]) (RR := none) (LO := []) zxw476 (by decide +kernel) (zb_Jn zxw476 (by decide +kernel)) (by
  intro va F G hva hF hG hJ
  obtain ⟨_, rfl, ⟨x1, _, rfl, xl1, xu1, ⟨_, rfl, rfl⟩⟩⟩ := hva
  have hF : F = [] := hF
  subst hF
  obtain ⟨g0, _, rfl, gr0, ⟨g1, _, rfl, gr1, ⟨g2, _, rfl, gr2, rfl⟩⟩⟩ := hG
  refine ⟨_, _, zh303, ⟨rfl, rfl, by omega, by omega⟩, fun r F' G' hq => ?_⟩
  obtain ⟨rfl, rfl, queue', far', rfl, hfar⟩ := hq
  exact ⟨fun _ h => absurd h List.not_mem_nil, List.forall_mem_cons.mpr ⟨rfl, List.forall_mem_cons.mpr ⟨fun g h => (by cases h; exact hfar), fun _ h => absurd h List.not_mem_nil⟩⟩, rfl, trivial⟩)
