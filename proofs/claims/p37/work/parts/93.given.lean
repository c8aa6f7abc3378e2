/-! Contracts by hand, over types. -/
def zxNT62 : List Nat := [199, 203, 204, 205, 206, 207, 208, 209, 210, 211, 212, 213, 214, 215, 216]
def zxRC62 : List zbC := [.inl 0, .inr (0, 12, 3), .inr (0, 12, 14), .inr (0, 12, 15), .inr (0, 12, 16), .inr (0, 12, 17), .inr (0, 12, 18), .inr (0, 12, 19), .inr (0, 12, 20), .inr (0, 12, 21), .inr (0, 12, 22), .inr (0, 12, 23), .inr (0, 12, 24), .inr (0, 12, 25), .inr (0, 12, 26)]
theorem zxw62 : zb_wf z_TYs z_cl zyM zxNT62 zxRC62 = true := by decide +kernel
theorem zxo62 : z_OK z_TB z_cl z_FT z_TYs z_PH z_KX zxm215.1 zxm215.2.1 zxm215.2.2.1 zxm215.2.2.2.1 zxg62 := zb_OK (mm := zxm215) (RF := [((-2147483648), 2147483647), ((-2147483648), 2147483647), ((-2147483648), 2147483647), ((-2147483648), 2147483647), ((-2147483648), 2147483647), ((-2147483648), 2147483647), ((-2147483648), 2147483647), ((-2147483648), 2147483647), (0, 220), (0, 14)]) (RG := [(220, ((-128), 127)), (220, ((-2147483648), 2147483647)), (220, ((-2147483648), 2147483647)), (14, ((-2147483648), 2147483647)), (14, ((-2147483648), 2147483647)), (14, ((-2147483648), 2147483647)), (14, ((-2147483648), 2147483647)), (220, ((-2147483648), 2147483647)), (14, ((-2147483648), 2147483647)), (14, ((-2147483648), 2147483647)), (14, ((-2147483648), 2147483647)), (14, ((-2147483648), 2147483647)), (220, ((-2147483648), 2147483647)), (13, ((-2147483648), 2147483647))]) (AR := [.inl 0, .inr ((-2147483648), 2147483647)]) (RFo := [(8, some (0, 220)), (9, some (0, 14))]) (RGo := [(0, none), (12, none), (13, none)]) (RR := some none) (LO := []) (KP := [0, 12, 13]) (by decide +kernel) zxw62 (by decide +kernel) (zb_J12 (KP := [0, 12, 13]) (c := 0) (jc := 9) (a1 := 8) (n1 := 220) (j1 := 7) (a2 := 10) (n2 := 14) (j2 := 9) (a3 := 11) (n3 := 14) (j3 := 10) (a4 := 12) (n4 := 14) (j4 := 11) (by decide +kernel) zxw62 rfl ⟨_, rfl⟩ (by decide) (by decide) (by decide) (by decide) (by decide) (by decide) (by decide) (by decide) (by decide) (by decide) rfl rfl rfl rfl (by decide +kernel)) (by
  intro va F G hva hF hG hJ
  obtain ⟨_, rfl, ⟨x1, _, rfl, xl1, xu1, rfl⟩⟩ := hva
  obtain ⟨f0, _, rfl, fl0, fu0, ⟨f1, _, rfl, fl1, fu1, ⟨f2, _, rfl, fl2, fu2, ⟨f3, _, rfl, fl3, fu3, ⟨f4, _, rfl, fl4, fu4, ⟨f5, _, rfl, fl5, fu5, ⟨f6, _, rfl, fl6, fu6, ⟨f7, _, rfl, fl7, fu7, ⟨f8, _, rfl, fl8, fu8, ⟨f9, _, rfl, fl9, fu9, rfl⟩⟩⟩⟩⟩⟩⟩⟩⟩⟩ := hF
  obtain ⟨g0, _, rfl, gr0, ⟨g1, _, rfl, gr1, ⟨g2, _, rfl, gr2, ⟨g3, _, rfl, gr3, ⟨g4, _, rfl, gr4, ⟨g5, _, rfl, gr5, ⟨g6, _, rfl, gr6, ⟨g7, _, rfl, gr7, ⟨g8, _, rfl, gr8, ⟨g9, _, rfl, gr9, ⟨g10, _, rfl, gr10, ⟨g11, _, rfl, gr11, ⟨g12, _, rfl, gr12, ⟨g13, _, rfl, gr13, rfl⟩⟩⟩⟩⟩⟩⟩⟩⟩⟩⟩⟩⟩⟩ := hG
  obtain ⟨cs0, h1, h2, h3, h4, e0, e1, e2, e3, e4, hP⟩ := hJ
  cases e0
  cases e1
  cases e2
  cases e3
  cases e4
  refine ⟨_, _, zh215, ⟨rfl, rfl, rfl, by omega, by omega, hP⟩, fun r F' G' hq => ?_⟩
  obtain ⟨v, pl', len', fl', op', cm', wt', nb', sm', tp', cs', said', w', sl', sf', sh', st', codes', co', cf', ch', ct', rfl, rfl, rfl, hP2, t1, t2⟩ := hq
  have hcs : 0 ≤ cs' ∧ cs' ≤ 14 := by
    obtain ⟨D, cm, _, _, _, c1, c2, _⟩ := hP2
    exact ⟨c1, c2⟩
  exact ⟨List.forall_mem_cons.mpr ⟨fun x h => (by cases h; exact ⟨t1, t2⟩), List.forall_mem_cons.mpr ⟨fun x h => (by cases h; exact hcs), fun _ h => absurd h List.not_mem_nil⟩⟩, List.forall_mem_cons.mpr ⟨rfl, List.forall_mem_cons.mpr ⟨rfl, List.forall_mem_cons.mpr ⟨rfl, fun _ h => absurd h List.not_mem_nil⟩⟩⟩, ⟨v, rfl⟩, ⟨cs', codes', cf', ch', ct', rfl, rfl, rfl, rfl, rfl, hP2⟩⟩)
def zxNT95 : List Nat := [150, 151, 152, 157, 158]
def zxRC95 : List zbC := [.inl 0, .inr (0, 4, 0), .inr (0, 4, 1), .inr (0, 4, 12), .inr (0, 4, 13)]
theorem zxw95 : zb_wf z_TYs z_cl zyV zxNT95 zxRC95 = true := by decide +kernel
theorem zxo95 : z_OK z_TB z_cl z_FT z_TYs z_PH z_KX zxm94.1 zxm94.2.1 zxm94.2.2.1 zxm94.2.2.2.1 zxg95 := zb_OK (mm := zxm94) (RF := [((-2147483648), 2147483647)]) (RG := [(200, (0, 12)), (200, (0, 99999)), (13, ((-2147483648), 2147483647)), (40, ((-2147483648), 2147483647))]) (AR := [.inl 0, .inr (0, 200), .inr ((-2147483648), 200)]) (RFo := []) (RGo := [(0, none), (1, none), (2, none)]) (RR := some none) (LO := []) (KP := [0, 1, 2]) (by decide +kernel) zxw95 (by decide +kernel) (zb_J4 (KP := [0, 1, 2]) (c := 0) (a1 := 1) (n1 := 200) (j1 := 0) (a2 := 2) (n2 := 200) (j2 := 1) (by decide +kernel) zxw95 rfl ⟨_, rfl⟩ (by decide) (by decide) (by decide) (by decide) (by decide) rfl rfl (by decide +kernel)) (by
  intro va F G hva hF hG hJ
  obtain ⟨_, rfl, ⟨x1, _, rfl, xl1, xu1, ⟨x2, _, rfl, xl2, xu2, rfl⟩⟩⟩ := hva
  obtain ⟨f0, _, rfl, fl0, fu0, rfl⟩ := hF
  obtain ⟨g0, _, rfl, gr0, ⟨g1, _, rfl, gr1, ⟨g2, _, rfl, gr2, ⟨g3, _, rfl, gr3, rfl⟩⟩⟩⟩ := hG
  obtain ⟨h1, h2, e1, e2, hP⟩ := hJ
  cases e1
  cases e2
  refine ⟨_, _, zh94, ⟨rfl, rfl, rfl, hP, by omega, by omega, by omega⟩, fun r F' G' hq => ?_⟩
  obtain ⟨v, ans', stk', rfl, rfl, rfl⟩ := hq
  exact ⟨fun _ h => absurd h List.not_mem_nil, List.forall_mem_cons.mpr ⟨rfl, List.forall_mem_cons.mpr ⟨rfl, List.forall_mem_cons.mpr ⟨rfl, fun _ h => absurd h List.not_mem_nil⟩⟩⟩, ⟨v, rfl⟩, ⟨_, _, rfl, rfl, hP⟩⟩)
def zxNT106 : List Nat := [199, 203, 204, 205, 206, 207, 208, 209, 210, 211, 212, 213, 214, 215, 216]
def zxRC106 : List zbC := [.inl 0, .inr (0, 12, 3), .inr (0, 12, 14), .inr (0, 12, 15), .inr (0, 12, 16), .inr (0, 12, 17), .inr (0, 12, 18), .inr (0, 12, 19), .inr (0, 12, 20), .inr (0, 12, 21), .inr (0, 12, 22), .inr (0, 12, 23), .inr (0, 12, 24), .inr (0, 12, 25), .inr (0, 12, 26)]
theorem zxw106 : zb_wf z_TYs z_cl zyM zxNT106 zxRC106 = true := by decide +kernel
theorem zxo106 : z_OK z_TB z_cl z_FT z_TYs z_PH z_KX zxm248.1 zxm248.2.1 zxm248.2.2.1 zxm248.2.2.2.1 zxg106 := zb_OK (mm := zxm248) (RF := [((-2147483648), 2147483647), ((-2147483648), 2147483647), ((-2147483648), 2147483647), ((-2147483648), 2147483647), ((-2147483648), 2147483647), ((-2147483648), 2147483647), ((-2147483648), 2147483647), ((-2147483648), 2147483647), (0, 220), (0, 14)]) (RG := [(220, ((-128), 127)), (220, ((-2147483648), 2147483647)), (220, ((-2147483648), 2147483647)), (14, ((-2147483648), 2147483647)), (14, ((-2147483648), 2147483647)), (14, ((-2147483648), 2147483647)), (14, ((-2147483648), 2147483647)), (220, ((-2147483648), 2147483647)), (14, ((-2147483648), 2147483647)), (14, ((-2147483648), 2147483647)), (14, ((-2147483648), 2147483647)), (14, ((-2147483648), 2147483647)), (220, ((-2147483648), 2147483647)), (13, ((-2147483648), 2147483647))]) (AR := [.inl 0, .inr ((-2147483648), 2147483647)]) (RFo := [(0, none), (1, none), (2, none), (3, none), (4, none), (5, none), (6, none), (7, none), (8, none), (9, none)]) (RGo := [(0, none), (1, none), (2, none), (3, none), (4, none), (5, none), (6, none), (7, none), (8, none), (9, none), (10, none), (11, none), (13, none)]) (RR := some (some (0, 1))) (LO := [((0, 12, 48, none), .inl (.ofNat 0, .ofNat 28))]) (KP := [0, 1, 2, 3, 4, 5, 6, 7, 8, 9, 10, 11, 13]) (by decide +kernel) zxw106 (by decide +kernel) (zb_J12 (KP := [0, 1, 2, 3, 4, 5, 6, 7, 8, 9, 10, 11, 13]) (c := 0) (jc := 9) (a1 := 8) (n1 := 220) (j1 := 7) (a2 := 10) (n2 := 14) (j2 := 9) (a3 := 11) (n3 := 14) (j3 := 10) (a4 := 12) (n4 := 14) (j4 := 11) (by decide +kernel) zxw106 rfl ⟨_, rfl⟩ (by decide) (by decide) (by decide) (by decide) (by decide) (by decide) (by decide) (by decide) (by decide) (by decide) rfl rfl rfl rfl (by decide +kernel)) (by
  intro va F G hva hF hG hJ
  obtain ⟨_, rfl, ⟨x1, _, rfl, xl1, xu1, rfl⟩⟩ := hva
  obtain ⟨f0, _, rfl, fl0, fu0, ⟨f1, _, rfl, fl1, fu1, ⟨f2, _, rfl, fl2, fu2, ⟨f3, _, rfl, fl3, fu3, ⟨f4, _, rfl, fl4, fu4, ⟨f5, _, rfl, fl5, fu5, ⟨f6, _, rfl, fl6, fu6, ⟨f7, _, rfl, fl7, fu7, ⟨f8, _, rfl, fl8, fu8, ⟨f9, _, rfl, fl9, fu9, rfl⟩⟩⟩⟩⟩⟩⟩⟩⟩⟩ := hF
  obtain ⟨g0, _, rfl, gr0, ⟨g1, _, rfl, gr1, ⟨g2, _, rfl, gr2, ⟨g3, _, rfl, gr3, ⟨g4, _, rfl, gr4, ⟨g5, _, rfl, gr5, ⟨g6, _, rfl, gr6, ⟨g7, _, rfl, gr7, ⟨g8, _, rfl, gr8, ⟨g9, _, rfl, gr9, ⟨g10, _, rfl, gr10, ⟨g11, _, rfl, gr11, ⟨g12, _, rfl, gr12, ⟨g13, _, rfl, gr13, rfl⟩⟩⟩⟩⟩⟩⟩⟩⟩⟩⟩⟩⟩⟩ := hG
  obtain ⟨cs0, h1, h2, h3, h4, e0, e1, e2, e3, e4, hP⟩ := hJ
  cases e0
  cases e1
  cases e2
  cases e3
  cases e4
  refine ⟨_, _, zh248, ⟨rfl, rfl, rfl, hP⟩, fun r F' G' hq => ?_⟩
  obtain ⟨v, stk', rfl, hv, rfl, rfl⟩ := hq
  have hv2 : 0 ≤ v ∧ v ≤ 1 := by omega
  exact ⟨List.forall_mem_cons.mpr ⟨rfl, List.forall_mem_cons.mpr ⟨rfl, List.forall_mem_cons.mpr ⟨rfl, List.forall_mem_cons.mpr ⟨rfl, List.forall_mem_cons.mpr ⟨rfl, List.forall_mem_cons.mpr ⟨rfl, List.forall_mem_cons.mpr ⟨rfl, List.forall_mem_cons.mpr ⟨rfl, List.forall_mem_cons.mpr ⟨rfl, List.forall_mem_cons.mpr ⟨rfl, fun _ h => absurd h List.not_mem_nil⟩⟩⟩⟩⟩⟩⟩⟩⟩⟩, List.forall_mem_cons.mpr ⟨rfl, List.forall_mem_cons.mpr ⟨rfl, List.forall_mem_cons.mpr ⟨rfl, List.forall_mem_cons.mpr ⟨rfl, List.forall_mem_cons.mpr ⟨rfl, List.forall_mem_cons.mpr ⟨rfl, List.forall_mem_cons.mpr ⟨rfl, List.forall_mem_cons.mpr ⟨rfl, List.forall_mem_cons.mpr ⟨rfl, List.forall_mem_cons.mpr ⟨rfl, List.forall_mem_cons.mpr ⟨rfl, List.forall_mem_cons.mpr ⟨rfl, List.forall_mem_cons.mpr ⟨rfl, fun _ h => absurd h List.not_mem_nil⟩⟩⟩⟩⟩⟩⟩⟩⟩⟩⟩⟩⟩, ⟨v, rfl, by show (_ : Int) ≤ v; omega, by show v ≤ (_ : Int); omega⟩, ⟨_, _, _, _, _, rfl, rfl, rfl, rfl, rfl, hP⟩⟩)
def zxNT122 : List Nat := []
def zxRC122 : List zbC := []
theorem zxw122 : zb_wf z_TYs z_cl zy0 zxNT122 zxRC122 = true := by decide +kernel
theorem zxo122 : z_OK z_TB z_cl z_FT z_TYs z_PH z_KX zxm105.1 zxm105.2.1 zxm105.2.2.1 zxm105.2.2.2.1 zxg122 := zb_OK (mm := zxm105) (RF := []) (RG := []) (AR := [.inr (1, 16777215)]) (RFo := []) (RGo := []) (RR := some (some (0, 23))) (LO := []) (KP := []) (by decide +kernel) zxw122 (by decide +kernel) (zb_Jn (KP := []) (by decide +kernel) zxw122 (by decide +kernel)) (by
  intro va F G hva hF hG hJ
  obtain ⟨x0, _, rfl, xl0, xu0, rfl⟩ := hva
  have hF : F = [] := hF
  subst hF
  have hG : G = [] := hG
  subst hG
  refine ⟨_, _, zh105, ⟨rfl, by omega, by omega⟩, fun r F' G' hq => ?_⟩
  obtain ⟨rfl, rfl, v, rfl, v1, v2, v3⟩ := hq
  exact ⟨fun _ h => absurd h List.not_mem_nil, fun _ h => absurd h List.not_mem_nil, ⟨v, rfl, v1, v3 (by omega)⟩, trivial⟩)
def zxNT131 : List Nat := [199, 217]
def zxRC131 : List zbC := [.inl 0, .inr (0, 12, 28)]
theorem zxw131 : zb_wf z_TYs z_cl zyFi zxNT131 zxRC131 = true := by decide +kernel
theorem zxo131 : z_OK z_TB z_cl z_FT z_TYs z_PH z_KX zxm256.1 zxm256.2.1 zxm256.2.2.1 zxm256.2.2.2.1 zxg131 := zb_OK (mm := zxm256) (RF := []) (RG := [(24, (0, 16777215))]) (AR := [.inl 0, .inr (0, 23)]) (RFo := []) (RGo := [(0, none)]) (RR := some (some (0, 16777215))) (LO := []) (KP := [0]) (by decide +kernel) zxw131 (by decide +kernel) (zb_Jn (KP := [0]) (by decide +kernel) zxw131 (by decide +kernel)) (by
  intro va F G hva hF hG hJ
  obtain ⟨_, rfl, ⟨x1, _, rfl, xl1, xu1, rfl⟩⟩ := hva
  have hF : F = [] := hF
  subst hF
  obtain ⟨g0, _, rfl, gr0, rfl⟩ := hG
  refine ⟨_, _, zh256, ⟨rfl, rfl, by omega, by omega, fun k k1 k2 => ⟨(by have h9 : (0 : Int) ≤ g0 k ∧ g0 k ≤ (16777215 : Int) := gr0 k k1 k2; omega), (by have h9 : (0 : Int) ≤ g0 k ∧ g0 k ≤ (16777215 : Int) := gr0 k k1 k2; omega)⟩⟩, fun r F' G' hq => ?_⟩
  obtain ⟨rfl, rfl, v, rfl, v1, v2⟩ := hq
  exact ⟨fun _ h => absurd h List.not_mem_nil, List.forall_mem_cons.mpr ⟨rfl, fun _ h => absurd h List.not_mem_nil⟩, ⟨v, rfl, v1, by show v ≤ (16777215 : Int); omega⟩, trivial⟩)
def zxNT162 : List Nat := [199, 218, 219, 222, 223, 224, 217]
def zxRC162 : List zbC := [.inl 0, .inr (0, 12, 34), .inr (0, 12, 35), .inr (0, 12, 38), .inr (0, 12, 39), .inr (0, 12, 40), .inr (0, 12, 28)]
theorem zxw162 : zb_wf z_TYs z_cl zyWa zxNT162 zxRC162 = true := by decide +kernel
theorem zxo162 : z_OK z_TB z_cl z_FT z_TYs z_PH z_KX zxm268.1 zxm268.2.1 zxm268.2.2.1 zxm268.2.2.2.1 zxg162 := zb_OK (mm := zxm268) (RF := [(0, 16777215), (0, 12), ((-2147483648), 2147483647), (0, 8)]) (RG := [(12, ((-66), 190)), (12, ((-66), 190)), (8, (0, 7)), (8, ((-2147483648), 2147483647)), (8, ((-2147483648), 2147483647)), (24, (0, 16777215))]) (AR := [.inl 0, .inr ((-2147483648), 1000000)]) (RFo := [(0, none), (1, none), (2, none), (3, some (0, 8))]) (RGo := [(0, none), (1, none), (2, some (8, (0, 7))), (5, none)]) (RR := some none) (LO := []) (KP := [0, 1, 5]) (by decide +kernel) zxw162 (by decide +kernel) (zb_Jn (KP := [0, 1, 5]) (by decide +kernel) zxw162 (by decide +kernel)) (by
  intro va F G hva hF hG hJ
  obtain ⟨_, rfl, ⟨x1, _, rfl, xl1, xu1, rfl⟩⟩ := hva
  obtain ⟨f0, _, rfl, fl0, fu0, ⟨f1, _, rfl, fl1, fu1, ⟨f2, _, rfl, fl2, fu2, ⟨f3, _, rfl, fl3, fu3, rfl⟩⟩⟩⟩ := hF
  obtain ⟨g0, _, rfl, gr0, ⟨g1, _, rfl, gr1, ⟨g2, _, rfl, gr2, ⟨g3, _, rfl, gr3, ⟨g4, _, rfl, gr4, ⟨g5, _, rfl, gr5, rfl⟩⟩⟩⟩⟩⟩ := hG
  refine ⟨_, _, zh268, ⟨rfl, rfl, rfl, by omega, by omega, by omega, fun j j1 j2 => ⟨(by have h9 : (0 : Int) ≤ g2 j ∧ g2 j ≤ (7 : Int) := gr2 j j1 j2; omega), (by have h9 : (0 : Int) ≤ g2 j ∧ g2 j ≤ (7 : Int) := gr2 j j1 j2; omega)⟩⟩, fun r F' G' hq => ?_⟩
  obtain ⟨v, nm', na', sf', ff', rfl, rfl, rfl, n1, n2, n3⟩ := hq
  exact ⟨List.forall_mem_cons.mpr ⟨rfl, List.forall_mem_cons.mpr ⟨rfl, List.forall_mem_cons.mpr ⟨rfl, List.forall_mem_cons.mpr ⟨fun x h => (by cases h; exact ⟨n1, n2⟩), fun _ h => absurd h List.not_mem_nil⟩⟩⟩⟩, List.forall_mem_cons.mpr ⟨rfl, List.forall_mem_cons.mpr ⟨rfl, List.forall_mem_cons.mpr ⟨fun g h => (by cases h; exact n3), List.forall_mem_cons.mpr ⟨rfl, fun _ h => absurd h List.not_mem_nil⟩⟩⟩⟩, ⟨v, rfl⟩, trivial⟩)
def zxNT206 : List Nat := [199, 226, 225, 228]
def zxRC206 : List zbC := [.inl 0, .inr (0, 12, 43), .inr (0, 12, 42), .inr (0, 12, 45)]
theorem zxw206 : zb_wf z_TYs z_cl zyHa zxNT206 zxRC206 = true := by decide +kernel
theorem zxo206 : z_OK z_TB z_cl z_FT z_TYs z_PH z_KX zxm282.1 zxm282.2.1 zxm282.2.2.1 zxm282.2.2.2.1 zxg206 := zb_OK (mm := zxm282) (RF := []) (RG := [(288, (0, 24)), (6912, ((-10990), 24239)), (12, (0, 1000000000))]) (AR := [.inl 0, .inr (0, 287), .inr (0, 12)]) (RFo := []) (RGo := [(0, none), (1, none), (2, none)]) (RR := some (some (0, 1))) (LO := []) (KP := [0, 1, 2]) (by decide +kernel) zxw206 (by decide +kernel) (zb_Jn (KP := [0, 1, 2]) (by decide +kernel) zxw206 (by decide +kernel)) (by
  intro va F G hva hF hG hJ
  obtain ⟨_, rfl, ⟨x1, _, rfl, xl1, xu1, ⟨x2, _, rfl, xl2, xu2, rfl⟩⟩⟩ := hva
  have hF : F = [] := hF
  subst hF
  obtain ⟨g0, _, rfl, gr0, ⟨g1, _, rfl, gr1, ⟨g2, _, rfl, gr2, rfl⟩⟩⟩ := hG
  refine ⟨_, _, zh282, ⟨rfl, rfl, by omega, by omega, by omega, by omega, fun k k1 k2 => ⟨(by have h9 : (0 : Int) ≤ g0 k ∧ g0 k ≤ (24 : Int) := gr0 k k1 k2; omega), (by have h9 : (0 : Int) ≤ g0 k ∧ g0 k ≤ (24 : Int) := gr0 k k1 k2; omega)⟩⟩, fun r F' G' hq => ?_⟩
  obtain ⟨rfl, rfl, hx⟩ := hq
  exact ⟨fun _ h => absurd h List.not_mem_nil, List.forall_mem_cons.mpr ⟨rfl, List.forall_mem_cons.mpr ⟨rfl, List.forall_mem_cons.mpr ⟨rfl, fun _ h => absurd h List.not_mem_nil⟩⟩⟩, (by rcases hx with rfl | rfl; exact ⟨0, rfl, by decide, by decide⟩; exact ⟨1, rfl, by decide, by decide⟩), trivial⟩)
def zxNT223 : List Nat := [199, 200, 230]
def zxRC223 : List zbC := [.inl 0, .inr (0, 12, 0), .inr (0, 12, 47)]
theorem zxw223 : zb_wf z_TYs z_cl zyLe zxNT223 zxRC223 = true := by decide +kernel
theorem zxo223 : z_OK z_TB z_cl z_FT z_TYs z_PH z_KX zxm285.1 zxm285.2.1 zxm285.2.2.1 zxm285.2.2.2.1 zxg223 := zb_OK (mm := zxm285) (RF := [(0, 28)]) (RG := [(422, ((-2147483648), 2147483647)), (28, (0, 16777215))]) (AR := [.inl 0, .inr (1, 8)]) (RFo := [(0, none)]) (RGo := [(0, none), (1, none)]) (RR := some (some ((-1), 16777215))) (LO := []) (KP := [0, 1]) (by decide +kernel) zxw223 (by decide +kernel) (zb_Jn (KP := [0, 1]) (by decide +kernel) zxw223 (by decide +kernel)) (by
  intro va F G hva hF hG hJ
  obtain ⟨_, rfl, ⟨x1, _, rfl, xl1, xu1, rfl⟩⟩ := hva
  obtain ⟨f0, _, rfl, fl0, fu0, rfl⟩ := hF
  obtain ⟨g0, _, rfl, gr0, ⟨g1, _, rfl, gr1, rfl⟩⟩ := hG
  refine ⟨_, _, zh285, ⟨rfl, rfl, rfl, by omega, by omega, by omega⟩, fun r F' G' hq => ?_⟩
  obtain ⟨rfl, rfl, v, rfl, v1, v2⟩ := hq
  exact ⟨List.forall_mem_cons.mpr ⟨rfl, fun _ h => absurd h List.not_mem_nil⟩, List.forall_mem_cons.mpr ⟨rfl, List.forall_mem_cons.mpr ⟨rfl, fun _ h => absurd h List.not_mem_nil⟩⟩, ⟨v, rfl, v1, by show v ≤ (16777215 : Int); omega⟩, trivial⟩)
def zxNT237 : List Nat := [199, 203, 204, 205, 206, 207, 208, 209, 210, 211, 212, 213, 214, 215, 216]
def zxRC237 : List zbC := [.inl 0, .inr (0, 12, 3), .inr (0, 12, 14), .inr (0, 12, 15), .inr (0, 12, 16), .inr (0, 12, 17), .inr (0, 12, 18), .inr (0, 12, 19), .inr (0, 12, 20), .inr (0, 12, 21), .inr (0, 12, 22), .inr (0, 12, 23), .inr (0, 12, 24), .inr (0, 12, 25), .inr (0, 12, 26)]
theorem zxw237 : zb_wf z_TYs z_cl zyM zxNT237 zxRC237 = true := by decide +kernel
theorem zxo237 : z_OK z_TB z_cl z_FT z_TYs z_PH z_KX zxm288.1 zxm288.2.1 zxm288.2.2.1 zxm288.2.2.2.1 zxg237 := zb_OK (mm := zxm288) (RF := [((-2147483648), 2147483647), ((-2147483648), 2147483647), ((-2147483648), 2147483647), ((-2147483648), 2147483647), ((-2147483648), 2147483647), ((-2147483648), 2147483647), ((-2147483648), 2147483647), ((-2147483648), 2147483647), (0, 220), (0, 14)]) (RG := [(220, ((-128), 127)), (220, ((-2147483648), 2147483647)), (220, ((-2147483648), 2147483647)), (14, ((-2147483648), 2147483647)), (14, ((-2147483648), 2147483647)), (14, ((-2147483648), 2147483647)), (14, ((-2147483648), 2147483647)), (220, ((-2147483648), 2147483647)), (14, ((-2147483648), 2147483647)), (14, ((-2147483648), 2147483647)), (14, ((-2147483648), 2147483647)), (14, ((-2147483648), 2147483647)), (220, ((-2147483648), 2147483647)), (13, ((-2147483648), 2147483647))]) (AR := [.inl 0, .inr ((-2147483648), 2147483647), .inr (999, 999)]) (RFo := [(0, none), (1, none), (2, none), (3, none), (4, none), (5, none), (6, none), (7, none), (8, none), (9, none)]) (RGo := [(0, none), (1, none), (2, none), (3, none), (4, none), (5, none), (6, none), (7, none), (8, none), (9, none), (10, none), (11, none), (13, none)]) (RR := some (some (0, 999))) (LO := []) (KP := [0, 1, 2, 3, 4, 5, 6, 7, 8, 9, 10, 11, 13]) (by decide +kernel) zxw237 (by decide +kernel) (zb_J12 (KP := [0, 1, 2, 3, 4, 5, 6, 7, 8, 9, 10, 11, 13]) (c := 0) (jc := 9) (a1 := 8) (n1 := 220) (j1 := 7) (a2 := 10) (n2 := 14) (j2 := 9) (a3 := 11) (n3 := 14) (j3 := 10) (a4 := 12) (n4 := 14) (j4 := 11) (by decide +kernel) zxw237 rfl ⟨_, rfl⟩ (by decide) (by decide) (by decide) (by decide) (by decide) (by decide) (by decide) (by decide) (by decide) (by decide) rfl rfl rfl rfl (by decide +kernel)) (by
  intro va F G hva hF hG hJ
  obtain ⟨_, rfl, ⟨x1, _, rfl, xl1, xu1, ⟨x2, _, rfl, xl2, xu2, rfl⟩⟩⟩ := hva
  obtain ⟨f0, _, rfl, fl0, fu0, ⟨f1, _, rfl, fl1, fu1, ⟨f2, _, rfl, fl2, fu2, ⟨f3, _, rfl, fl3, fu3, ⟨f4, _, rfl, fl4, fu4, ⟨f5, _, rfl, fl5, fu5, ⟨f6, _, rfl, fl6, fu6, ⟨f7, _, rfl, fl7, fu7, ⟨f8, _, rfl, fl8, fu8, ⟨f9, _, rfl, fl9, fu9, rfl⟩⟩⟩⟩⟩⟩⟩⟩⟩⟩ := hF
  obtain ⟨g0, _, rfl, gr0, ⟨g1, _, rfl, gr1, ⟨g2, _, rfl, gr2, ⟨g3, _, rfl, gr3, ⟨g4, _, rfl, gr4, ⟨g5, _, rfl, gr5, ⟨g6, _, rfl, gr6, ⟨g7, _, rfl, gr7, ⟨g8, _, rfl, gr8, ⟨g9, _, rfl, gr9, ⟨g10, _, rfl, gr10, ⟨g11, _, rfl, gr11, ⟨g12, _, rfl, gr12, ⟨g13, _, rfl, gr13, rfl⟩⟩⟩⟩⟩⟩⟩⟩⟩⟩⟩⟩⟩⟩ := hG
  obtain ⟨cs0, h1, h2, h3, h4, e0, e1, e2, e3, e4, hP⟩ := hJ
  cases e0
  cases e1
  cases e2
  cases e3
  cases e4
  refine ⟨_, _, zh288, ⟨rfl, rfl, rfl, hP, by omega⟩, fun r F' G' hq => ?_⟩
  obtain ⟨v, stk', rfl, v1, v2, rfl, rfl⟩ := hq
  have hv2 : 0 ≤ v ∧ v ≤ x2 := ⟨v1, v2⟩
  exact ⟨List.forall_mem_cons.mpr ⟨rfl, List.forall_mem_cons.mpr ⟨rfl, List.forall_mem_cons.mpr ⟨rfl, List.forall_mem_cons.mpr ⟨rfl, List.forall_mem_cons.mpr ⟨rfl, List.forall_mem_cons.mpr ⟨rfl, List.forall_mem_cons.mpr ⟨rfl, List.forall_mem_cons.mpr ⟨rfl, List.forall_mem_cons.mpr ⟨rfl, List.forall_mem_cons.mpr ⟨rfl, fun _ h => absurd h List.not_mem_nil⟩⟩⟩⟩⟩⟩⟩⟩⟩⟩, List.forall_mem_cons.mpr ⟨rfl, List.forall_mem_cons.mpr ⟨rfl, List.forall_mem_cons.mpr ⟨rfl, List.forall_mem_cons.mpr ⟨rfl, List.forall_mem_cons.mpr ⟨rfl, List.forall_mem_cons.mpr ⟨rfl, List.forall_mem_cons.mpr ⟨rfl, List.forall_mem_cons.mpr ⟨rfl, List.forall_mem_cons.mpr ⟨rfl, List.forall_mem_cons.mpr ⟨rfl, List.forall_mem_cons.mpr ⟨rfl, List.forall_mem_cons.mpr ⟨rfl, List.forall_mem_cons.mpr ⟨rfl, fun _ h => absurd h List.not_mem_nil⟩⟩⟩⟩⟩⟩⟩⟩⟩⟩⟩⟩⟩, ⟨v, rfl, by show (_ : Int) ≤ v; omega, by show v ≤ (_ : Int); omega⟩, ⟨_, _, _, _, _, rfl, rfl, rfl, rfl, rfl, hP⟩⟩)
def zxNT238 : List Nat := [199, 203, 204, 205, 206, 207, 208, 209, 210, 211, 212, 213, 214, 215, 216]
def zxRC238 : List zbC := [.inl 0, .inr (0, 12, 3), .inr (0, 12, 14), .inr (0, 12, 15), .inr (0, 12, 16), .inr (0, 12, 17), .inr (0, 12, 18), .inr (0, 12, 19), .inr (0, 12, 20), .inr (0, 12, 21), .inr (0, 12, 22), .inr (0, 12, 23), .inr (0, 12, 24), .inr (0, 12, 25), .inr (0, 12, 26)]
theorem zxw238 : zb_wf z_TYs z_cl zyM zxNT238 zxRC238 = true := by decide +kernel
theorem zxo238 : z_OK z_TB z_cl z_FT z_TYs z_PH z_KX zxm288.1 zxm288.2.1 zxm288.2.2.1 zxm288.2.2.2.1 zxg238 := zb_OK (mm := zxm288) (RF := [((-2147483648), 2147483647), ((-2147483648), 2147483647), ((-2147483648), 2147483647), ((-2147483648), 2147483647), ((-2147483648), 2147483647), ((-2147483648), 2147483647), ((-2147483648), 2147483647), ((-2147483648), 2147483647), (0, 220), (0, 14)]) (RG := [(220, ((-128), 127)), (220, ((-2147483648), 2147483647)), (220, ((-2147483648), 2147483647)), (14, ((-2147483648), 2147483647)), (14, ((-2147483648), 2147483647)), (14, ((-2147483648), 2147483647)), (14, ((-2147483648), 2147483647)), (220, ((-2147483648), 2147483647)), (14, ((-2147483648), 2147483647)), (14, ((-2147483648), 2147483647)), (14, ((-2147483648), 2147483647)), (14, ((-2147483648), 2147483647)), (220, ((-2147483648), 2147483647)), (13, ((-2147483648), 2147483647))]) (AR := [.inl 0, .inr ((-2147483648), 2147483647), .inr (99, 99)]) (RFo := [(0, none), (1, none), (2, none), (3, none), (4, none), (5, none), (6, none), (7, none), (8, none), (9, none)]) (RGo := [(0, none), (1, none), (2, none), (3, none), (4, none), (5, none), (6, none), (7, none), (8, none), (9, none), (10, none), (11, none), (13, none)]) (RR := some (some (0, 99))) (LO := []) (KP := [0, 1, 2, 3, 4, 5, 6, 7, 8, 9, 10, 11, 13]) (by decide +kernel) zxw238 (by decide +kernel) (zb_J12 (KP := [0, 1, 2, 3, 4, 5, 6, 7, 8, 9, 10, 11, 13]) (c := 0) (jc := 9) (a1 := 8) (n1 := 220) (j1 := 7) (a2 := 10) (n2 := 14) (j2 := 9) (a3 := 11) (n3 := 14) (j3 := 10) (a4 := 12) (n4 := 14) (j4 := 11) (by decide +kernel) zxw238 rfl ⟨_, rfl⟩ (by decide) (by decide) (by decide) (by decide) (by decide) (by decide) (by decide) (by decide) (by decide) (by decide) rfl rfl rfl rfl (by decide +kernel)) (by
  intro va F G hva hF hG hJ
  obtain ⟨_, rfl, ⟨x1, _, rfl, xl1, xu1, ⟨x2, _, rfl, xl2, xu2, rfl⟩⟩⟩ := hva
  obtain ⟨f0, _, rfl, fl0, fu0, ⟨f1, _, rfl, fl1, fu1, ⟨f2, _, rfl, fl2, fu2, ⟨f3, _, rfl, fl3, fu3, ⟨f4, _, rfl, fl4, fu4, ⟨f5, _, rfl, fl5, fu5, ⟨f6, _, rfl, fl6, fu6, ⟨f7, _, rfl, fl7, fu7, ⟨f8, _, rfl, fl8, fu8, ⟨f9, _, rfl, fl9, fu9, rfl⟩⟩⟩⟩⟩⟩⟩⟩⟩⟩ := hF
  obtain ⟨g0, _, rfl, gr0, ⟨g1, _, rfl, gr1, ⟨g2, _, rfl, gr2, ⟨g3, _, rfl, gr3, ⟨g4, _, rfl, gr4, ⟨g5, _, rfl, gr5, ⟨g6, _, rfl, gr6, ⟨g7, _, rfl, gr7, ⟨g8, _, rfl, gr8, ⟨g9, _, rfl, gr9, ⟨g10, _, rfl, gr10, ⟨g11, _, rfl, gr11, ⟨g12, _, rfl, gr12, ⟨g13, _, rfl, gr13, rfl⟩⟩⟩⟩⟩⟩⟩⟩⟩⟩⟩⟩⟩⟩ := hG
  obtain ⟨cs0, h1, h2, h3, h4, e0, e1, e2, e3, e4, hP⟩ := hJ
  cases e0
  cases e1
  cases e2
  cases e3
  cases e4
  refine ⟨_, _, zh288, ⟨rfl, rfl, rfl, hP, by omega⟩, fun r F' G' hq => ?_⟩
  obtain ⟨v, stk', rfl, v1, v2, rfl, rfl⟩ := hq
  have hv2 : 0 ≤ v ∧ v ≤ x2 := ⟨v1, v2⟩
  exact ⟨List.forall_mem_cons.mpr ⟨rfl, List.forall_mem_cons.mpr ⟨rfl, List.forall_mem_cons.mpr ⟨rfl, List.forall_mem_cons.mpr ⟨rfl, List.forall_mem_cons.mpr ⟨rfl, List.forall_mem_cons.mpr ⟨rfl, List.forall_mem_cons.mpr ⟨rfl, List.forall_mem_cons.mpr ⟨rfl, List.forall_mem_cons.mpr ⟨rfl, List.forall_mem_cons.mpr ⟨rfl, fun _ h => absurd h List.not_mem_nil⟩⟩⟩⟩⟩⟩⟩⟩⟩⟩, List.forall_mem_cons.mpr ⟨rfl, List.forall_mem_cons.mpr ⟨rfl, List.forall_mem_cons.mpr ⟨rfl, List.forall_mem_cons.mpr ⟨rfl, List.forall_mem_cons.mpr ⟨rfl, List.forall_mem_cons.mpr ⟨rfl, List.forall_mem_cons.mpr ⟨rfl, List.forall_mem_cons.mpr ⟨rfl, List.forall_mem_cons.mpr ⟨rfl, List.forall_mem_cons.mpr ⟨rfl, List.forall_mem_cons.mpr ⟨rfl, List.forall_mem_cons.mpr ⟨rfl, List.forall_mem_cons.mpr ⟨rfl, fun _ h => absurd h List.not_mem_nil⟩⟩⟩⟩⟩⟩⟩⟩⟩⟩⟩⟩⟩, ⟨v, rfl, by show (_ : Int) ≤ v; omega, by show v ≤ (_ : Int); omega⟩, ⟨_, _, _, _, _, rfl, rfl, rfl, rfl, rfl, hP⟩⟩)
def zxNT253 : List Nat := [199, 203, 204, 205, 206, 207, 208, 209, 210, 211, 212, 213, 214, 215, 216]
def zxRC253 : List zbC := [.inl 0, .inr (0, 12, 3), .inr (0, 12, 14), .inr (0, 12, 15), .inr (0, 12, 16), .inr (0, 12, 17), .inr (0, 12, 18), .inr (0, 12, 19), .inr (0, 12, 20), .inr (0, 12, 21), .inr (0, 12, 22), .inr (0, 12, 23), .inr (0, 12, 24), .inr (0, 12, 25), .inr (0, 12, 26)]
theorem zxw253 : zb_wf z_TYs z_cl zyM zxNT253 zxRC253 = true := by decide +kernel
theorem zxo253 : z_OK z_TB z_cl z_FT z_TYs z_PH z_KX zxm288.1 zxm288.2.1 zxm288.2.2.1 zxm288.2.2.2.1 zxg253 := zb_OK (mm := zxm288) (RF := [((-2147483648), 2147483647), ((-2147483648), 2147483647), ((-2147483648), 2147483647), ((-2147483648), 2147483647), ((-2147483648), 2147483647), ((-2147483648), 2147483647), ((-2147483648), 2147483647), ((-2147483648), 2147483647), (0, 220), (0, 14)]) (RG := [(220, ((-128), 127)), (220, ((-2147483648), 2147483647)), (220, ((-2147483648), 2147483647)), (14, ((-2147483648), 2147483647)), (14, ((-2147483648), 2147483647)), (14, ((-2147483648), 2147483647)), (14, ((-2147483648), 2147483647)), (220, ((-2147483648), 2147483647)), (14, ((-2147483648), 2147483647)), (14, ((-2147483648), 2147483647)), (14, ((-2147483648), 2147483647)), (14, ((-2147483648), 2147483647)), (220, ((-2147483648), 2147483647)), (13, ((-2147483648), 2147483647))]) (AR := [.inl 0, .inr ((-2147483648), 2147483647), .inr (10, 10)]) (RFo := [(0, none), (1, none), (2, none), (3, none), (4, none), (5, none), (6, none), (7, none), (8, none), (9, none)]) (RGo := [(0, none), (1, none), (2, none), (3, none), (4, none), (5, none), (6, none), (7, none), (8, none), (9, none), (10, none), (11, none), (13, none)]) (RR := some (some (0, 10))) (LO := []) (KP := [0, 1, 2, 3, 4, 5, 6, 7, 8, 9, 10, 11, 13]) (by decide +kernel) zxw253 (by decide +kernel) (zb_J12 (KP := [0, 1, 2, 3, 4, 5, 6, 7, 8, 9, 10, 11, 13]) (c := 0) (jc := 9) (a1 := 8) (n1 := 220) (j1 := 7) (a2 := 10) (n2 := 14) (j2 := 9) (a3 := 11) (n3 := 14) (j3 := 10) (a4 := 12) (n4 := 14) (j4 := 11) (by decide +kernel) zxw253 rfl ⟨_, rfl⟩ (by decide) (by decide) (by decide) (by decide) (by decide) (by decide) (by decide) (by decide) (by decide) (by decide) rfl rfl rfl rfl (by decide +kernel)) (by
  intro va F G hva hF hG hJ
  obtain ⟨_, rfl, ⟨x1, _, rfl, xl1, xu1, ⟨x2, _, rfl, xl2, xu2, rfl⟩⟩⟩ := hva
  obtain ⟨f0, _, rfl, fl0, fu0, ⟨f1, _, rfl, fl1, fu1, ⟨f2, _, rfl, fl2, fu2, ⟨f3, _, rfl, fl3, fu3, ⟨f4, _, rfl, fl4, fu4, ⟨f5, _, rfl, fl5, fu5, ⟨f6, _, rfl, fl6, fu6, ⟨f7, _, rfl, fl7, fu7, ⟨f8, _, rfl, fl8, fu8, ⟨f9, _, rfl, fl9, fu9, rfl⟩⟩⟩⟩⟩⟩⟩⟩⟩⟩ := hF
  obtain ⟨g0, _, rfl, gr0, ⟨g1, _, rfl, gr1, ⟨g2, _, rfl, gr2, ⟨g3, _, rfl, gr3, ⟨g4, _, rfl, gr4, ⟨g5, _, rfl, gr5, ⟨g6, _, rfl, gr6, ⟨g7, _, rfl, gr7, ⟨g8, _, rfl, gr8, ⟨g9, _, rfl, gr9, ⟨g10, _, rfl, gr10, ⟨g11, _, rfl, gr11, ⟨g12, _, rfl, gr12, ⟨g13, _, rfl, gr13, rfl⟩⟩⟩⟩⟩⟩⟩⟩⟩⟩⟩⟩⟩⟩ := hG
  obtain ⟨cs0, h1, h2, h3, h4, e0, e1, e2, e3, e4, hP⟩ := hJ
  cases e0
  cases e1
  cases e2
  cases e3
  cases e4
  refine ⟨_, _, zh288, ⟨rfl, rfl, rfl, hP, by omega⟩, fun r F' G' hq => ?_⟩
  obtain ⟨v, stk', rfl, v1, v2, rfl, rfl⟩ := hq
  have hv2 : 0 ≤ v ∧ v ≤ x2 := ⟨v1, v2⟩
  exact ⟨List.forall_mem_cons.mpr ⟨rfl, List.forall_mem_cons.mpr ⟨rfl, List.forall_mem_cons.mpr ⟨rfl, List.forall_mem_cons.mpr ⟨rfl, List.forall_mem_cons.mpr ⟨rfl, List.forall_mem_cons.mpr ⟨rfl, List.forall_mem_cons.mpr ⟨rfl, List.forall_mem_cons.mpr ⟨rfl, List.forall_mem_cons.mpr ⟨rfl, List.forall_mem_cons.mpr ⟨rfl, fun _ h => absurd h List.not_mem_nil⟩⟩⟩⟩⟩⟩⟩⟩⟩⟩, List.forall_mem_cons.mpr ⟨rfl, List.forall_mem_cons.mpr ⟨rfl, List.forall_mem_cons.mpr ⟨rfl, List.forall_mem_cons.mpr ⟨rfl, List.forall_mem_cons.mpr ⟨rfl, List.forall_mem_cons.mpr ⟨rfl, List.forall_mem_cons.mpr ⟨rfl, List.forall_mem_cons.mpr ⟨rfl, List.forall_mem_cons.mpr ⟨rfl, List.forall_mem_cons.mpr ⟨rfl, List.forall_mem_cons.mpr ⟨rfl, List.forall_mem_cons.mpr ⟨rfl, List.forall_mem_cons.mpr ⟨rfl, fun _ h => absurd h List.not_mem_nil⟩⟩⟩⟩⟩⟩⟩⟩⟩⟩⟩⟩⟩, ⟨v, rfl, by show (_ : Int) ≤ v; omega, by show v ≤ (_ : Int); omega⟩, ⟨_, _, _, _, _, rfl, rfl, rfl, rfl, rfl, hP⟩⟩)
def zxNT267 : List Nat := [199, 200, 201, 202]
theorem zxw267 : zb_wf z_TYs z_cl zyT zxNT267 zu_RCm = true := by decide +kernel
theorem zxla267 : zu_lst zyT zu_NMm 199 = [(.inr (0, 126), 20), (.inr (2, 126), 21), (.inl 0, 22)] := by decide +kernel
theorem zxlb267 : zu_lst zyT zu_NMm 243 = [(.inr (0, 126), 20), (.inr (2, 126), 21), (.inl 0, 22), (.inr (1, 126), 20)] := by decide +kernel
theorem zxo267 : z_OK z_TB z_cl z_FT z_TYs z_PH z_KX zxm299.1 zxm299.2.1 zxm299.2.2.1 zxm299.2.2.2.1 zxg267 := zu_toOK (fun l OB D DA sz => zu_OKp (mm := zxm299) (RF := [(0, 1)]) (RG := zu_RGm) (AR := [.inl 0]) (RFo := [(0, none)]) (UP := []) (CP := [(1, 0)]) (RR := none) (fl := 16) (t0 := 199) (t1 := 243) (ph := 1) (NMS := zu_NMm) (PX := fun _ => True) (QP := fun _ => True) zxw267 (by decide +kernel) rfl (zu_rc0_ok (by decide +kernel)) (by decide) (by decide +kernel) (by decide +kernel) (by decide +kernel) (by decide +kernel) (by decide +kernel) rfl (zu_phl rfl (by decide +kernel)) (by
  intro va F G hva hF hG hrg he _
  obtain ⟨_, rfl, rfl⟩ := hva
  obtain ⟨k, _, rfl, k1, k2, rfl⟩ := hF
  obtain ⟨nw, _, rfl, _, as, _, rfl, _, kp, _, rfl, _, rfl⟩ := hG
  refine ⟨_, _, zsb12 (nw := nw) (as := as) (kp := kp), ⟨rfl, rfl⟩, fun r F' G' hq => ?_⟩
  obtain ⟨rfl, rfl, d, rfl, hd⟩ := hq
  rw [zxla267] at he
  rw [zxlb267]
  refine ⟨List.forall_mem_cons.mpr ⟨rfl, fun _ h => absurd h List.not_mem_nil⟩, zu_cp12 hd, rfl, ?_, fun _ _ => trivial⟩
  exact zu_mv12 he hd))
def zxNT270 : List Nat := [243, 200, 201, 202]
theorem zxw270 : zb_wf z_TYs z_cl zyT zxNT270 zu_RCm = true := by decide +kernel
theorem zxla270 : zu_lst zyT zu_NMm 243 = [(.inr (0, 126), 20), (.inr (2, 126), 21), (.inl 0, 22), (.inr (1, 126), 20)] := by decide +kernel
theorem zxlb270 : zu_lst zyT zu_NMm 243 = [(.inr (0, 126), 20), (.inr (2, 126), 21), (.inl 0, 22), (.inr (1, 126), 20)] := by decide +kernel
theorem zxo270 : z_OK z_TB z_cl z_FT z_TYs z_PH z_KX zxm301.1 zxm301.2.1 zxm301.2.2.1 zxm301.2.2.2.1 zxg270 := zu_toOK (fun l OB D DA sz => zu_OKp (mm := zxm301) (RF := [(0, 1)]) (RG := zu_RGm) (AR := [.inl 0]) (RFo := [(0, none)]) (UP := []) (CP := [(0, 1)]) (RR := none) (fl := 16) (t0 := 243) (t1 := 243) (ph := 0) (NMS := zu_NMm) (PX := fun _ => True) (QP := fun _ => True) zxw270 (by decide +kernel) rfl (zu_rc0_ok (by decide +kernel)) (by decide) (by decide +kernel) (by decide +kernel) (by decide +kernel) (by decide +kernel) (by decide +kernel) rfl (zu_phl rfl (by decide +kernel)) (by
  intro va F G hva hF hG hrg he _
  obtain ⟨_, rfl, rfl⟩ := hva
  obtain ⟨k, _, rfl, k1, k2, rfl⟩ := hF
  obtain ⟨nw, _, rfl, _, as, _, rfl, _, kp, _, rfl, _, rfl⟩ := hG
  refine ⟨_, _, zsb21 (nw := nw) (as := as) (kp := kp), ⟨rfl, rfl⟩, fun r F' G' hq => ?_⟩
  obtain ⟨rfl, rfl, d, rfl, hd⟩ := hq
  rw [zxla270] at he
  rw [zxlb270]
  refine ⟨List.forall_mem_cons.mpr ⟨rfl, fun _ h => absurd h List.not_mem_nil⟩, zu_cp21 hd, rfl, ?_, fun _ _ => trivial⟩
  exact zu_mv21 he hd))
def zxNT279 : List Nat := [199, 200, 236, 234]
def zxRC279 : List zbC := [.inl 0, .inr (0, 12, 0), .inr (0, 12, 54), .inl 2]
theorem zxw279 : zb_wf z_TYs z_cl zySa zxNT279 zxRC279 = true := by decide +kernel
theorem zxo279 : z_OK z_TB z_cl z_FT z_TYs z_PH z_KX zxm303.1 zxm303.2.1 zxm303.2.2.1 zxm303.2.2.2.1 zxg279 := zb_OK (mm := zxm303) (RF := []) (RG := [(422, ((-2147483648), 2147483647)), (288, ((-2147483648), 2147483647)), (288, (0, 1000000000))]) (AR := [.inl 0, .inr (0, 287), .inl 3]) (RFo := []) (RGo := [(0, none), (2, some (288, (0, 1000000000)))]) (RR := none) (LO := []) (KP := [0]) (by decide +kernel) zxw279 (by decide +kernel) (zb_Jn (KP := [0]) (by decide +kernel) zxw279 (by decide +kernel)) (by
  intro va F G hva hF hG hJ
  obtain ⟨_, rfl, ⟨x1, _, rfl, xl1, xu1, ⟨_, rfl, rfl⟩⟩⟩ := hva
  have hF : F = [] := hF
  subst hF
  obtain ⟨g0, _, rfl, gr0, ⟨g1, _, rfl, gr1, ⟨g2, _, rfl, gr2, rfl⟩⟩⟩ := hG
  refine ⟨_, _, zh303, ⟨rfl, rfl, by omega, by omega⟩, fun r F' G' hq => ?_⟩
  obtain ⟨rfl, rfl, queue', far', rfl, hfar⟩ := hq
  exact ⟨fun _ h => absurd h List.not_mem_nil, List.forall_mem_cons.mpr ⟨rfl, List.forall_mem_cons.mpr ⟨fun g h => (by cases h; exact hfar), fun _ h => absurd h List.not_mem_nil⟩⟩, rfl, trivial⟩)
def zxNT280 : List Nat := [199, 200, 236, 235]
def zxRC280 : List zbC := [.inl 0, .inr (0, 12, 0), .inr (0, 12, 54), .inl 2]
theorem zxw280 : zb_wf z_TYs z_cl zySa zxNT280 zxRC280 = true := by decide +kernel
theorem zxo280 : z_OK z_TB z_cl z_FT z_TYs z_PH z_KX zxm303.1 zxm303.2.1 zxm303.2.2.1 zxm303.2.2.2.1 zxg280 := zb_OK (mm := zxm303) (RF := []) (RG := [(422, ((-2147483648), 2147483647)), (288, ((-2147483648), 2147483647)), (288, (0, 1000000000))]) (AR := [.inl 0, .inr (0, 287), .inl 3]) (RFo := []) (RGo := [(0, none), (2, some (288, (0, 1000000000)))]) (RR := none) (LO := []) (KP := [0]) (by decide +kernel) zxw280 (by decide +kernel) (zb_Jn (KP := [0]) (by decide +kernel) zxw280 (by decide +kernel)) (by
  intro va F G hva hF hG hJ
  obtain ⟨_, rfl, ⟨x1, _, rfl, xl1, xu1, ⟨_, rfl, rfl⟩⟩⟩ := hva
  have hF : F = [] := hF
  subst hF
  obtain ⟨g0, _, rfl, gr0, ⟨g1, _, rfl, gr1, ⟨g2, _, rfl, gr2, rfl⟩⟩⟩ := hG
  refine ⟨_, _, zh303, ⟨rfl, rfl, by omega, by omega⟩, fun r F' G' hq => ?_⟩
  obtain ⟨rfl, rfl, queue', far', rfl, hfar⟩ := hq
  exact ⟨fun _ h => absurd h List.not_mem_nil, List.forall_mem_cons.mpr ⟨rfl, List.forall_mem_cons.mpr ⟨fun g h => (by cases h; exact hfar), fun _ h => absurd h List.not_mem_nil⟩⟩, rfl, trivial⟩)
def zxNT283 : List Nat := []
def zxRC283 : List zbC := []
theorem zxw283 : zb_wf z_TYs z_cl zy0 zxNT283 zxRC283 = true := by decide +kernel
theorem zxo283 : z_OK z_TB z_cl z_FT z_TYs z_PH z_KX zxm105.1 zxm105.2.1 zxm105.2.2.1 zxm105.2.2.2.1 zxg283 := zb_OK (mm := zxm105) (RF := []) (RG := []) (AR := [.inr (0, 16777215)]) (RFo := []) (RGo := []) (RR := some (some (0, 32))) (LO := []) (KP := []) (by decide +kernel) zxw283 (by decide +kernel) (zb_Jn (KP := []) (by decide +kernel) zxw283 (by decide +kernel)) (by
  intro va F G hva hF hG hJ
  obtain ⟨x0, _, rfl, xl0, xu0, rfl⟩ := hva
  have hF : F = [] := hF
  subst hF
  have hG : G = [] := hG
  subst hG
  refine ⟨_, _, zh105, ⟨rfl, by omega, by omega⟩, fun r F' G' hq => ?_⟩
  obtain ⟨rfl, rfl, v, rfl, v1, v2, v3⟩ := hq
  exact ⟨fun _ h => absurd h List.not_mem_nil, fun _ h => absurd h List.not_mem_nil, ⟨v, rfl, v1, v2⟩, trivial⟩)
def zxNT293 : List Nat := [243, 203, 204, 205, 206, 207, 208, 209, 210, 211, 212, 213, 214, 215, 216]
def zxRC293 : List zbC := [.inl 0, .inr (0, 12, 3), .inr (0, 12, 14), .inr (0, 12, 15), .inr (0, 12, 16), .inr (0, 12, 17), .inr (0, 12, 18), .inr (0, 12, 19), .inr (0, 12, 20), .inr (0, 12, 21), .inr (0, 12, 22), .inr (0, 12, 23), .inr (0, 12, 24), .inr (0, 12, 25), .inr (0, 12, 26)]
theorem zxw293 : zb_wf z_TYs z_cl zyM zxNT293 zxRC293 = true := by decide +kernel
theorem zxo293 : z_OK z_TB z_cl z_FT z_TYs z_PH z_KX zxm248.1 zxm248.2.1 zxm248.2.2.1 zxm248.2.2.2.1 zxg293 := zb_OK (mm := zxm248) (RF := [((-2147483648), 2147483647), ((-2147483648), 2147483647), ((-2147483648), 2147483647), ((-2147483648), 2147483647), ((-2147483648), 2147483647), ((-2147483648), 2147483647), ((-2147483648), 2147483647), ((-2147483648), 2147483647), (0, 220), (0, 14)]) (RG := [(220, ((-128), 127)), (220, ((-2147483648), 2147483647)), (220, ((-2147483648), 2147483647)), (14, ((-2147483648), 2147483647)), (14, ((-2147483648), 2147483647)), (14, ((-2147483648), 2147483647)), (14, ((-2147483648), 2147483647)), (220, ((-2147483648), 2147483647)), (14, ((-2147483648), 2147483647)), (14, ((-2147483648), 2147483647)), (14, ((-2147483648), 2147483647)), (14, ((-2147483648), 2147483647)), (220, ((-2147483648), 2147483647)), (13, ((-2147483648), 2147483647))]) (AR := [.inl 0, .inr ((-2147483648), 2147483647)]) (RFo := [(0, none), (1, none), (2, none), (3, none), (4, none), (5, none), (6, none), (7, none), (8, none), (9, none)]) (RGo := [(0, none), (1, none), (2, none), (3, none), (4, none), (5, none), (6, none), (7, none), (8, none), (9, none), (10, none), (11, none), (13, none)]) (RR := some (some (0, 1))) (LO := [((0, 12, 48, none), .inl (.ofNat 0, .ofNat 28))]) (KP := [0, 1, 2, 3, 4, 5, 6, 7, 8, 9, 10, 11, 13]) (by decide +kernel) zxw293 (by decide +kernel) (zb_J12 (KP := [0, 1, 2, 3, 4, 5, 6, 7, 8, 9, 10, 11, 13]) (c := 0) (jc := 9) (a1 := 8) (n1 := 220) (j1 := 7) (a2 := 10) (n2 := 14) (j2 := 9) (a3 := 11) (n3 := 14) (j3 := 10) (a4 := 12) (n4 := 14) (j4 := 11) (by decide +kernel) zxw293 rfl ⟨_, rfl⟩ (by decide) (by decide) (by decide) (by decide) (by decide) (by decide) (by decide) (by decide) (by decide) (by decide) rfl rfl rfl rfl (by decide +kernel)) (by
  intro va F G hva hF hG hJ
  obtain ⟨_, rfl, ⟨x1, _, rfl, xl1, xu1, rfl⟩⟩ := hva
  obtain ⟨f0, _, rfl, fl0, fu0, ⟨f1, _, rfl, fl1, fu1, ⟨f2, _, rfl, fl2, fu2, ⟨f3, _, rfl, fl3, fu3, ⟨f4, _, rfl, fl4, fu4, ⟨f5, _, rfl, fl5, fu5, ⟨f6, _, rfl, fl6, fu6, ⟨f7, _, rfl, fl7, fu7, ⟨f8, _, rfl, fl8, fu8, ⟨f9, _, rfl, fl9, fu9, rfl⟩⟩⟩⟩⟩⟩⟩⟩⟩⟩ := hF
  obtain ⟨g0, _, rfl, gr0, ⟨g1, _, rfl, gr1, ⟨g2, _, rfl, gr2, ⟨g3, _, rfl, gr3, ⟨g4, _, rfl, gr4, ⟨g5, _, rfl, gr5, ⟨g6, _, rfl, gr6, ⟨g7, _, rfl, gr7, ⟨g8, _, rfl, gr8, ⟨g9, _, rfl, gr9, ⟨g10, _, rfl, gr10, ⟨g11, _, rfl, gr11, ⟨g12, _, rfl, gr12, ⟨g13, _, rfl, gr13, rfl⟩⟩⟩⟩⟩⟩⟩⟩⟩⟩⟩⟩⟩⟩ := hG
  obtain ⟨cs0, h1, h2, h3, h4, e0, e1, e2, e3, e4, hP⟩ := hJ
  cases e0
  cases e1
  cases e2
  cases e3
  cases e4
  refine ⟨_, _, zh248, ⟨rfl, rfl, rfl, hP⟩, fun r F' G' hq => ?_⟩
  obtain ⟨v, stk', rfl, hv, rfl, rfl⟩ := hq
  have hv2 : 0 ≤ v ∧ v ≤ 1 := by omega
  exact ⟨List.forall_mem_cons.mpr ⟨rfl, List.forall_mem_cons.mpr ⟨rfl, List.forall_mem_cons.mpr ⟨rfl, List.forall_mem_cons.mpr ⟨rfl, List.forall_mem_cons.mpr ⟨rfl, List.forall_mem_cons.mpr ⟨rfl, List.forall_mem_cons.mpr ⟨rfl, List.forall_mem_cons.mpr ⟨rfl, List.forall_mem_cons.mpr ⟨rfl, List.forall_mem_cons.mpr ⟨rfl, fun _ h => absurd h List.not_mem_nil⟩⟩⟩⟩⟩⟩⟩⟩⟩⟩, List.forall_mem_cons.mpr ⟨rfl, List.forall_mem_cons.mpr ⟨rfl, List.forall_mem_cons.mpr ⟨rfl, List.forall_mem_cons.mpr ⟨rfl, List.forall_mem_cons.mpr ⟨rfl, List.forall_mem_cons.mpr ⟨rfl, List.forall_mem_cons.mpr ⟨rfl, List.forall_mem_cons.mpr ⟨rfl, List.forall_mem_cons.mpr ⟨rfl, List.forall_mem_cons.mpr ⟨rfl, List.forall_mem_cons.mpr ⟨rfl, List.forall_mem_cons.mpr ⟨rfl, List.forall_mem_cons.mpr ⟨rfl, fun _ h => absurd h List.not_mem_nil⟩⟩⟩⟩⟩⟩⟩⟩⟩⟩⟩⟩⟩, ⟨v, rfl, by show (_ : Int) ≤ v; omega, by show v ≤ (_ : Int); omega⟩, ⟨_, _, _, _, _, rfl, rfl, rfl, rfl, rfl, hP⟩⟩)
def zxNT347 : List Nat := [243, 218, 219, 222, 223, 224, 217]
def zxRC347 : List zbC := [.inl 0, .inr (0, 12, 34), .inr (0, 12, 35), .inr (0, 12, 38), .inr (0, 12, 39), .inr (0, 12, 40), .inr (0, 12, 28)]
theorem zxw347 : zb_wf z_TYs z_cl zyWa zxNT347 zxRC347 = true := by decide +kernel
theorem zxo347 : z_OK z_TB z_cl z_FT z_TYs z_PH z_KX zxm268.1 zxm268.2.1 zxm268.2.2.1 zxm268.2.2.2.1 zxg347 := zb_OK (mm := zxm268) (RF := [(0, 16777215), (0, 12), ((-2147483648), 2147483647), (0, 8)]) (RG := [(12, ((-66), 190)), (12, ((-66), 190)), (8, (0, 7)), (8, ((-2147483648), 2147483647)), (8, ((-2147483648), 2147483647)), (24, (0, 16777215))]) (AR := [.inl 0, .inr ((-2147483648), 1000000)]) (RFo := [(0, none), (1, none), (2, none), (3, some (0, 8))]) (RGo := [(0, none), (1, none), (2, some (8, (0, 7))), (5, none)]) (RR := some none) (LO := []) (KP := [0, 1, 5]) (by decide +kernel) zxw347 (by decide +kernel) (zb_Jn (KP := [0, 1, 5]) (by decide +kernel) zxw347 (by decide +kernel)) (by
  intro va F G hva hF hG hJ
  obtain ⟨_, rfl, ⟨x1, _, rfl, xl1, xu1, rfl⟩⟩ := hva
  obtain ⟨f0, _, rfl, fl0, fu0, ⟨f1, _, rfl, fl1, fu1, ⟨f2, _, rfl, fl2, fu2, ⟨f3, _, rfl, fl3, fu3, rfl⟩⟩⟩⟩ := hF
  obtain ⟨g0, _, rfl, gr0, ⟨g1, _, rfl, gr1, ⟨g2, _, rfl, gr2, ⟨g3, _, rfl, gr3, ⟨g4, _, rfl, gr4, ⟨g5, _, rfl, gr5, rfl⟩⟩⟩⟩⟩⟩ := hG
  refine ⟨_, _, zh268, ⟨rfl, rfl, rfl, by omega, by omega, by omega, fun j j1 j2 => ⟨(by have h9 : (0 : Int) ≤ g2 j ∧ g2 j ≤ (7 : Int) := gr2 j j1 j2; omega), (by have h9 : (0 : Int) ≤ g2 j ∧ g2 j ≤ (7 : Int) := gr2 j j1 j2; omega)⟩⟩, fun r F' G' hq => ?_⟩
  obtain ⟨v, nm', na', sf', ff', rfl, rfl, rfl, n1, n2, n3⟩ := hq
  exact ⟨List.forall_mem_cons.mpr ⟨rfl, List.forall_mem_cons.mpr ⟨rfl, List.forall_mem_cons.mpr ⟨rfl, List.forall_mem_cons.mpr ⟨fun x h => (by cases h; exact ⟨n1, n2⟩), fun _ h => absurd h List.not_mem_nil⟩⟩⟩⟩, List.forall_mem_cons.mpr ⟨rfl, List.forall_mem_cons.mpr ⟨rfl, List.forall_mem_cons.mpr ⟨fun g h => (by cases h; exact n3), List.forall_mem_cons.mpr ⟨rfl, fun _ h => absurd h List.not_mem_nil⟩⟩⟩⟩, ⟨v, rfl⟩, trivial⟩)
