/-! What the tables say of a class's places, by places in the tables. -/
def zk_at (TB : List Cond) (i : Nat) (w : Cond) : Bool := decide (TB[i]? = some w) && z_gw w
theorem zk_at_ok {TB : List Cond} {i : Nat} {w : Cond} (h : zk_at TB i w = true) : w ∈ TB.filter z_gw := by
  unfold zk_at at h
  rw [Bool.and_eq_true] at h
  exact List.mem_filter.mpr ⟨List.mem_of_getElem? (of_decide_eq_true h.1), h.2⟩
def zk_F (TB : List Cond) (cl : List vw_C) (own : String) : List (Nat × Nat × Nat) → List Nat → Bool
  | [], _ => true
  | q :: L, i :: P => (match cl[q.2.1]? with
    | some r => Nat.blt q.2.2 r.2.2 && zk_at TB i (Cond.fieldLink own q.1 (r.2.1 q.2.2).1 (r.2.1 q.2.2).2.1 (r.2.1 q.2.2).2.2.1)
    | none => false) && zk_F TB cl own L P
  | _ :: _, [] => false
def zk_C (TB : List Cond) (cl : List vw_C) (own : String) : List (Nat × Nat) → List (Nat × Nat × Nat) → Bool
  | [], _ => true
  | q :: L, i :: P => (match cl[q.2]? with
    | some r => zk_at TB i.1 (Cond.classLink own q.1 r.1) && zk_at TB i.2.1 (Cond.instantiable r.1 r.2.2) && zk_at TB i.2.2 (Cond.initialized r.1)
    | none => false) && zk_C TB cl own L P
  | _ :: _, [] => false
def zk_T (TB : List Cond) (own : String) : List (Nat × Int32) → List Nat → Bool
  | [], _ => true
  | q :: L, i :: P => zk_at TB i (Cond.constant own q.1 q.2) && zk_T TB own L P
  | _ :: _, [] => false
def zk_nest (own : String) (i : Nat) (y : MethodName) : Option Cond → Bool
  | some (.methodLinkNest o j z _) => decide (o = own) && Nat.beq j i && decide (z = y)
  | _ => false
/-- one link: its own word; for a method: instanceMethod or static; selects -/
def zk_L1 (TB : List Cond) (cl : List vw_C) (MT : List zM) (own : String) (q : Nat × Nat × Nat) (i : Nat × Nat × Nat) : Bool := match q.2.1 with
  | 9 => zk_at TB i.1 (Cond.methodLink own q.1 Lib.objectInit)
  | 8 => zk_at TB i.1 (Cond.methodLink own q.1 arraycopyName)
  | k => (match MT[q.2.2]? with
    | some mm => (match k with
      | 0 => zk_at TB i.1 (Cond.methodLink own q.1 mm.1) && zk_at TB i.2.1 (Cond.instanceMethod mm.1) && zk_at TB i.2.2 (Cond.selects mm.1.cls mm.1 mm.1) && (match cl[mm.2.2.2.2.2]? with
        | some r => decide (r.1 = mm.1.cls)
        | none => false)
      | 1 => zk_at TB i.1 (Cond.methodLink own q.1 mm.1) && zk_at TB i.2.1 (Cond.static mm.1)
      | 2 => zk_at TB i.1 (Cond.methodLink own q.1 mm.1) && zk_at TB i.2.1 (Cond.instanceMethod mm.1) && decide (mm.1.name = "<init>") && mm.2.2.2.1.isNone
      | 3 => zk_nest own q.1 mm.1 (TB[i.1]?) && zk_at TB i.2.1 (Cond.instanceMethod mm.1) && decide (mm.1.name = "<init>") && mm.2.2.2.1.isNone
      | 4 => zk_nest own q.1 mm.1 (TB[i.1]?) && zk_at TB i.2.1 (Cond.static mm.1)
      | _ => false)
    | none => false)
def zk_L (TB : List Cond) (cl : List vw_C) (MT : List zM) (own : String) : List (Nat × Nat × Nat) → List (Nat × Nat × Nat) → Bool
  | [], _ => true
  | q :: L, i :: P => zk_L1 TB cl MT own q i && zk_L TB cl MT own L P
  | _ :: _, [] => false
/-- a method: code, initialized -/
def zk_ok1 (TB : List Cond) (mm : zM) : Prop := Cond.code mm.1 mm.2.1 mm.2.2.1 mm.2.2.2.1 ∈ TB.filter z_gw ∧ Cond.initialized mm.1.cls ∈ TB.filter z_gw ∧ (mm.1.cls ≠ "java/lang/invoke/MethodHandle" ∧ mm.1.cls ≠ "java/lang/invoke/VarHandle") ∧ (parseMethodDescriptor mm.1.desc).map (fun d => d.parameters.length) = some mm.2.2.2.2.1
/-- a class: its fields' words, types, names -/
def zk_cl (TB : List Cond) (FT : Nat → Nat → FieldType) (ci : Nat) (r : vw_C) (P : List Nat) : Bool :=
  (List.range r.2.2).all (fun k => (match P[k]? with
    | some i => zk_at TB i (u_lay r.1 r.2.1 k)
    | none => false) && decide (parseFieldDescriptor (r.2.1 k).2.2.1 = some (FT ci k)) && decide ((r.2.1 k).1 = r.1)) &&
  (List.range r.2.2).all (fun a => (List.range r.2.2).all (fun b => Nat.ble a b || decide ((r.2.1 a).2.1 ≠ (r.2.1 b).2.1)))
def zk_cls (TB : List Cond) (FT : Nat → Nat → FieldType) : Nat → List vw_C → List (List Nat) → Bool
  | _, [], _ => true
  | ci, r :: L, p :: P => zk_cl TB FT ci r p && zk_cls TB FT (ci + 1) L P
  | _, _ :: _, [] => false
section ZWORDS
variable {TB Ts : List Cond} {cl : List vw_C} {FT : Nat → Nat → FieldType} {MT : List zM} {own : String}
theorem zk_F_ok : ∀ {L : List (Nat × Nat × Nat)} {P : List Nat}, zk_F TB cl own L P = true → ∀ q ∈ L, ∃ r, cl[q.2.1]? = some r ∧ q.2.2 < r.2.2 ∧ Cond.fieldLink own q.1 (r.2.1 q.2.2).1 (r.2.1 q.2.2).2.1 (r.2.1 q.2.2).2.2.1 ∈ TB.filter z_gw
  | [], _, _, q, hq => absurd hq List.not_mem_nil
  | x :: L, [], h, q, hq => by cases h
  | x :: L, i :: P, h, q, hq => by
    unfold zk_F at h
    rw [Bool.and_eq_true] at h
    rcases List.mem_cons.mp hq with rfl | hq
    · have h1 := h.1
      split at h1
      · rename_i r hr
        rw [Bool.and_eq_true] at h1
        exact ⟨r, hr, z_blt h1.1, zk_at_ok h1.2⟩
      · cases h1
    · exact zk_F_ok h.2 q hq
theorem zk_C_ok : ∀ {L : List (Nat × Nat)} {P : List (Nat × Nat × Nat)}, zk_C TB cl own L P = true → ∀ q ∈ L, ∃ r, cl[q.2]? = some r ∧ Cond.classLink own q.1 r.1 ∈ TB.filter z_gw ∧ Cond.instantiable r.1 r.2.2 ∈ TB.filter z_gw ∧ Cond.initialized r.1 ∈ TB.filter z_gw
  | [], _, _, q, hq => absurd hq List.not_mem_nil
  | x :: L, [], h, q, hq => by cases h
  | x :: L, i :: P, h, q, hq => by
    unfold zk_C at h
    rw [Bool.and_eq_true] at h
    rcases List.mem_cons.mp hq with rfl | hq
    · have h1 := h.1
      split at h1
      · rename_i r hr
        simp only [Bool.and_eq_true] at h1
        exact ⟨r, hr, zk_at_ok h1.1.1, zk_at_ok h1.1.2, zk_at_ok h1.2⟩
      · cases h1
    · exact zk_C_ok h.2 q hq
theorem zk_T_ok : ∀ {L : List (Nat × Int32)} {P : List Nat}, zk_T TB own L P = true → ∀ q ∈ L, Cond.constant own q.1 q.2 ∈ TB.filter z_gw
  | [], _, _, q, hq => absurd hq List.not_mem_nil
  | x :: L, [], h, q, hq => by cases h
  | x :: L, i :: P, h, q, hq => by
    unfold zk_T at h
    rw [Bool.and_eq_true] at h
    rcases List.mem_cons.mp hq with rfl | hq
    · exact zk_at_ok h.1
    · exact zk_T_ok h.2 q hq
theorem zk_nest_ok {i : Nat} {y : MethodName} {o : Option Cond} (h : zk_nest own i y o = true) : ∃ host, o = some (Cond.methodLinkNest own i y host) := by
  unfold zk_nest at h
  split at h
  · rename_i o2 j z host
    simp only [Bool.and_eq_true] at h
    have h1 := of_decide_eq_true h.1.1
    have h2 := z_beq h.1.2
    have h3 := of_decide_eq_true h.2
    subst h1; subst h2; subst h3
    exact ⟨host, rfl⟩
  · cases h
theorem zk_L1_ok {q i : Nat × Nat × Nat} (hT : ∀ w ∈ TB.filter z_gw, w ∈ Ts) (hM : ∀ mm ∈ MT, zk_ok1 TB mm)
    (h9 : Cond.instanceMethod Lib.objectInit ∈ TB.filter z_gw ∧ Cond.code Lib.objectInit ⟨#[0xb1]⟩ 1 none ∈ TB.filter z_gw) (h8 : Cond.native arraycopyName ∈ TB.filter z_gw ∧ Cond.static arraycopyName ∈ TB.filter z_gw ∧ Cond.initialized "java/lang/System" ∈ TB.filter z_gw) (h : zk_L1 TB cl MT own q i = true) :
    (q.2.1 = 9 → Cond.methodLink own q.1 Lib.objectInit ∈ Ts ∧ Cond.instanceMethod Lib.objectInit ∈ Ts ∧ Cond.code Lib.objectInit ⟨#[0xb1]⟩ 1 none ∈ Ts) ∧ (q.2.1 = 8 → Cond.methodLink own q.1 arraycopyName ∈ Ts ∧ Cond.native arraycopyName ∈ Ts ∧ Cond.static arraycopyName ∈ Ts ∧ Cond.initialized "java/lang/System" ∈ Ts) ∧ (q.2.1 ≤ 4 → ∃ mm, MT[q.2.2]? = some mm ∧ z_lk Ts own q.2.1 q.1 mm.1 mm.2.1 mm.2.2.1 mm.2.2.2.1 mm.2.2.2.2.1 ∧ (q.2.1 = 0 → ∃ r, cl[mm.2.2.2.2.2]? = some r ∧ r.1 = mm.1.cls)) := by
  obtain ⟨a, k, j⟩ := q
  have key : ∀ k2 : Nat, k2 = k → k2 ≤ 4 → ∃ mm, MT[j]? = some mm ∧ z_lk Ts own k2 a mm.1 mm.2.1 mm.2.2.1 mm.2.2.2.1 mm.2.2.2.2.1 ∧ (k2 = 0 → ∃ r, cl[mm.2.2.2.2.2]? = some r ∧ r.1 = mm.1.cls) := by
    intro k2 hk hk3
    subst hk
    unfold zk_L1 at h
    have hne9 : k2 ≠ 9 := by omega
    have hne8 : k2 ≠ 8 := by omega
    split at h
    · rename_i h9; exact absurd h9 hne9
    · rename_i h8; exact absurd h8 hne8
    · split at h
      · rename_i mm hmm
        have hmm : MT[j]? = some mm := hmm
        obtain ⟨m1, m2, m3, m4⟩ := hM mm (List.mem_of_getElem? hmm)
        refine ⟨mm, hmm, ?_, ?_⟩
        · refine ⟨hT _ m1, hT _ m2, m3, m4, ?_⟩
          match k2, hk3, h with
          | 0, _, h =>
            simp only [Bool.and_eq_true] at h
            exact ⟨hT _ (zk_at_ok h.1.1.1), hT _ (zk_at_ok h.1.1.2), hT _ (zk_at_ok h.1.2)⟩
          | 1, _, h =>
            simp only [Bool.and_eq_true] at h
            exact ⟨hT _ (zk_at_ok h.1), hT _ (zk_at_ok h.2)⟩
          | 2, _, h =>
            simp only [Bool.and_eq_true] at h
            exact ⟨hT _ (zk_at_ok h.1.1.1), hT _ (zk_at_ok h.1.1.2), of_decide_eq_true h.1.2, Option.isNone_iff_eq_none.mp h.2⟩
          | 3, _, h =>
            simp only [Bool.and_eq_true] at h
            obtain ⟨host, hh⟩ := zk_nest_ok h.1.1.1
            exact ⟨⟨host, hT _ (List.mem_filter.mpr ⟨List.mem_of_getElem? hh, rfl⟩)⟩, hT _ (zk_at_ok h.1.1.2), of_decide_eq_true h.1.2, Option.isNone_iff_eq_none.mp h.2⟩
          | 4, _, h =>
            simp only [Bool.and_eq_true] at h
            obtain ⟨host, hh⟩ := zk_nest_ok h.1
            exact ⟨⟨host, hT _ (List.mem_filter.mpr ⟨List.mem_of_getElem? hh, rfl⟩)⟩, hT _ (zk_at_ok h.2)⟩
        · intro h0
          subst h0
          have h : (zk_at TB i.1 (Cond.methodLink own a mm.1) && zk_at TB i.2.1 (Cond.instanceMethod mm.1) && zk_at TB i.2.2 (Cond.selects mm.1.cls mm.1 mm.1) && (match cl[mm.2.2.2.2.2]? with
            | some r => decide (r.1 = mm.1.cls)
            | none => false)) = true := h
          rw [Bool.and_eq_true] at h
          have h2 := h.2
          split at h2
          · rename_i r hr
            exact ⟨r, hr, of_decide_eq_true h2⟩
          · cases h2
      · cases h
  refine ⟨fun e => ?_, fun e => ?_, fun e => key k rfl e⟩
  · have e : k = 9 := e
    subst e
    exact ⟨hT _ (zk_at_ok h), hT _ h9.1, hT _ h9.2⟩
  · have e : k = 8 := e
    subst e
    exact ⟨hT _ (zk_at_ok h), hT _ h8.1, hT _ h8.2.1, hT _ h8.2.2⟩
theorem zk_L_ok {P2 : Nat × Nat × Nat → Prop} (hp : ∀ q i, zk_L1 TB cl MT own q i = true → P2 q) : ∀ {L P : List (Nat × Nat × Nat)}, zk_L TB cl MT own L P = true → ∀ q ∈ L, P2 q
  | [], _, _, q, hq => absurd hq List.not_mem_nil
  | x :: L, [], h, q, hq => by cases h
  | x :: L, i :: P, h, q, hq => by
    unfold zk_L at h
    rw [Bool.and_eq_true] at h
    rcases List.mem_cons.mp hq with rfl | hq
    · exact hp _ _ h.1
    · exact zk_L_ok hp h.2 q hq
theorem zk_cls_ok : ∀ {L : List vw_C} {ci : Nat} {P : List (List Nat)}, zk_cls TB FT ci L P = true → ∀ k r, L[k]? = some r → ∃ p, zk_cl TB FT (ci + k) r p = true
  | [], _, _, _, k, r, h => by simp at h
  | x :: L, ci, [], h, k, r, hk => by cases h
  | x :: L, ci, p :: P, h, k, r, hk => by
    unfold zk_cls at h
    rw [Bool.and_eq_true] at h
    cases k with
    | zero =>
      have : x = r := by simpa using hk
      subst this
      exact ⟨p, h.1⟩
    | succ k =>
      obtain ⟨p2, h2⟩ := zk_cls_ok h.2 k r (by simpa using hk)
      exact ⟨p2, by rw [show ci + (k + 1) = ci + 1 + k by omega]; exact h2⟩
theorem zk_ks {PC : List (List Nat)} (hc : zk_cls TB FT 0 cl PC = true) (hm : ∀ mm ∈ MT, zk_ok1 TB mm) (h9 : Cond.instanceMethod Lib.objectInit ∈ TB.filter z_gw ∧ Cond.code Lib.objectInit ⟨#[0xb1]⟩ 1 none ∈ TB.filter z_gw) (h8 : Cond.native arraycopyName ∈ TB.filter z_gw ∧ Cond.static arraycopyName ∈ TB.filter z_gw ∧ Cond.initialized "java/lang/System" ∈ TB.filter z_gw) (ha : ∀ k, k < 3 → Cond.arrayClass (z_ek k) ∈ TB.filter z_gw)
    {KF KL : List (Nat × Nat × Nat)} {KC : List (Nat × Nat)} {KT : List (Nat × Int32)} {pF pT : List Nat} {pC pL : List (Nat × Nat × Nat)} (hF : zk_F TB cl own KF pF = true) (hC : zk_C TB cl own KC pC = true) (hL : zk_L TB cl MT own KL pL = true) (hT : zk_T TB own KT pT = true)
    (Ts : List Cond) (hTs : ∀ w ∈ TB.filter z_gw, w ∈ Ts) (CA NA : List (Nat × Nat)) (AC : List (Nat × Nat × Nat × Int)) (IN : Option Nat) (hin : ∀ j r, IN = some j → cl[j]? = some r → r.1 = own) : z_KS Ts (TB.filter z_gw) cl FT own MT (KF, KC, KL, KT, CA, NA, AC, IN) := by
  refine ⟨⟨fun ci r hr => ?_, fun q hq => ?_⟩, fun q hq => ?_, zk_L_ok (P2 := fun q => (q.2.1 = 9 → _) ∧ (q.2.1 = 8 → _) ∧ (q.2.1 ≤ 4 → _)) (fun q i h => zk_L1_ok hTs hm h9 h8 h) hL, fun q hq => hTs _ (zk_T_ok hT q hq), fun k hk => hTs _ (ha k hk), fun w hw => ⟨hTs _ hw, (List.mem_filter.mp hw).2⟩, fun j r h1 h2 => hin j r h1 h2⟩
  · obtain ⟨p, hp⟩ := zk_cls_ok hc ci r hr
    rw [Nat.zero_add] at hp
    unfold zk_cl at hp
    rw [Bool.and_eq_true] at hp
    obtain ⟨p1, p2⟩ := hp
    have one : ∀ k, k < r.2.2 → u_lay r.1 r.2.1 k ∈ TB.filter z_gw ∧ parseFieldDescriptor (r.2.1 k).2.2.1 = some (FT ci k) ∧ (r.2.1 k).1 = r.1 := by
      intro k hk
      have h := List.all_eq_true.mp p1 k (List.mem_range.mpr hk)
      simp only [Bool.and_eq_true] at h
      refine ⟨?_, of_decide_eq_true h.1.2, of_decide_eq_true h.2⟩
      have h1 := h.1.1
      split at h1
      · exact zk_at_ok h1
      · cases h1
    have lt : ∀ a b, b < a → a < r.2.2 → (r.2.1 a).2.1 ≠ (r.2.1 b).2.1 := by
      intro a b hab ha2
      have h := List.all_eq_true.mp (List.all_eq_true.mp p2 a (List.mem_range.mpr ha2)) b (List.mem_range.mpr (by omega))
      rw [Bool.or_eq_true] at h
      rcases h with h | h
      · have := Nat.le_of_ble_eq_true h
        omega
      · exact of_decide_eq_true h
    refine ⟨fun w hw => ?_, fun k hk => (one k hk).2.1, fun a ha2 b hb hab => ?_, fun k hk => (one k hk).2.2⟩
    · obtain ⟨k, hk, rfl⟩ := List.mem_map.mp hw
      exact hTs _ (one k (List.mem_range.mp hk)).1
    · rcases Nat.lt_or_ge b a with h | h
      · exact lt a b h ha2
      · exact fun e => lt b a (by omega) hb e.symm
  · obtain ⟨r, h1, h2, h3⟩ := zk_F_ok hF q hq
    exact ⟨r, h1, h2, hTs _ h3⟩
  · obtain ⟨r, h1, h2, h3, h4⟩ := zk_C_ok hC q hq
    exact ⟨r, h1, hTs _ h2, hTs _ h3, hTs _ h4⟩
/-- a contract of SG, by its method's place -/
theorem z_lnk {TBL : List Cond} {TY : List zTy} {PHI : List (List Nat)} {KXf : (Nat → Nat) → Nat → State → Heap → Prop} {i : Nat} {mm : zM} {g : zSig} (hm : MT[i]? = some mm) (h : z_OK TBL cl FT TY PHI KXf mm.1 mm.2.1 mm.2.2.1 mm.2.2.2.1 g) : ∀ m2, MT[(i, g).1]? = some m2 → z_OK TBL cl FT TY PHI KXf m2.1 m2.2.1 m2.2.2.1 m2.2.2.2.1 (i, g).2 := by
  intro m2 h2
  have h2 : MT[i]? = some m2 := h2
  rw [hm] at h2
  cases h2
  exact h
theorem z_fil {P2 : Nat × zSig → Prop} {SG : List (Nat × zSig)} (CA : List (Nat × Nat)) (h : ∀ g ∈ SG, P2 g) : ∀ g ∈ CA.filterMap (fun a => SG[a.2]?), P2 g := by
  intro g hg
  obtain ⟨a, _, ha⟩ := List.mem_filterMap.mp hg
  exact h g (List.mem_of_getElem? ha)
end ZWORDS
