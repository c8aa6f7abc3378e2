/-! Divisions of numbers that are not below 0; calls by how many arguments there are. -/
theorem zv_div_eq {u v : Int32} {a b : Int} (hu : u.toInt = a) (hv : v.toInt = b) (ha : 0 ≤ a) (hb : 0 < b) : (u / v).toInt = a / b := by
  have h1 := z_hi u
  have h2 : a / b ≤ a := by
    rcases Int.lt_or_le b 2 with h | h
    · have : b = 1 := by omega
      subst this; simp
    · exact Int.ediv_le_self b ha
  have h3 : 0 ≤ a / b := Int.ediv_nonneg ha (by omega)
  rw [Int32.toInt_div, hu, hv, Int.tdiv_eq_ediv_of_nonneg ha]
  exact z_bmod (by omega) (by omega)
theorem zv_rem_eq {u v : Int32} {a b : Int} (hu : u.toInt = a) (hv : v.toInt = b) (ha : 0 ≤ a) (hb : 0 < b) : (u - u / v * v).toInt = a % b := by
  have h1 := z_hi u
  have hq := zv_div_eq hu hv ha hb
  have e := Int.mul_ediv_add_emod a b
  have h3 : 0 ≤ a % b := Int.emod_nonneg _ (by omega)
  have h4 : 0 ≤ a / b := Int.ediv_nonneg ha (by omega)
  have h5 : 0 ≤ a / b * b := Int.mul_nonneg h4 (by omega)
  have e2 : b * (a / b) = a / b * b := Int.mul_comm _ _
  have hm : (u / v * v).toInt = a / b * b := by
    rw [Int32.toInt_mul, hq, hv]
    exact z_bmod (by omega) (by omega)
  rw [Int32.toInt_sub, hm, hu]
  have : a - a / b * b = a % b := by omega
  rw [this]
  exact z_bmod (by omega) (by omega)
section ZVDIV
variable {cl : List vw_C} {FT : Nat → Nat → FieldType} {KXf : (Nat → Nat) → Nat → State → Heap → Prop} {TBL : List Cond} {MT : List zM} {y : zNL} {mm : zM} {K : zK} {rm : Nat × Nat} {good : Nat → List zNV → List zNV → List zNV → List (Int → Int) → Prop}
variable {pc : Nat} {L S : List zNV} {F : List zNV} {G : List (Int → Int)}
theorem zv_idiv (hB : zv_B cl FT KXf TBL MT y mm K rm good) {a b : Int} (hd : decode mm.2.1 pc = .ok (.idiv, 1)) (ha : 0 ≤ a) (hb : 0 < b) (k : good (pc + 1) L (.inl (a / b) :: S) F G) : good pc L (.inl b :: .inl a :: S) F G :=
  zv_bin0 hB hd rfl (by omega) fun u v hu hv => by
    show good _ _ (.inl (u / v).toInt :: _) _ _
    rw [zv_div_eq hu hv ha hb]; exact k
theorem zv_irem (hB : zv_B cl FT KXf TBL MT y mm K rm good) {a b : Int} (hd : decode mm.2.1 pc = .ok (.irem, 1)) (ha : 0 ≤ a) (hb : 0 < b) (k : good (pc + 1) L (.inl (a % b) :: S) F G) : good pc L (.inl b :: .inl a :: S) F G :=
  zv_bin0 hB hd rfl (by omega) fun u v hu hv => by
    show good _ _ (.inl (u - u / v * v).toInt :: _) _ _
    rw [zv_rem_eq hu hv ha hb]; exact k
section ZVARITY
variable {i : Nat} {mm2 : zM} {rm2 : Nat × Nat} {P2 : zNP} {Q2 : zNQ} {c : Nat} {a b d e : zNV}
theorem zv_iv0 (hB : zv_B cl FT KXf TBL MT y mm K rm good) (hok : zv_OK TBL cl KXf y mm2 rm2 P2 Q2) (hd : decode mm.2.1 pc = .ok (.invokevirtual i, 3)) (hl : zv_lk K MT (fun k => Nat.beq k 0) i = some mm2) (hc : ((n_O y).any (fun o => Nat.beq o.1 c && Nat.beq o.2 mm2.2.2.2.2.2) && Nat.beq 0 mm2.2.2.2.2.1 && (Nat.ble S.length 8 && S.all zv_n1) && (Nat.ble (rm2.1 + 1) rm.1 && Nat.ble (8 + (mm2.2.2.1 + 11) + rm2.2) rm.2)) = true)
    (hP : P2 [.inr c] F G) (k : ∀ r F' G', Q2 [.inr c] F G r F' G' → good (pc + 3) L (zv_ro r S) F' G') : good pc L (.inr c :: S) F G := by
  rw [Bool.and_eq_true, Bool.and_eq_true, Bool.and_eq_true] at hc
  exact zv_inv0 (va := []) hB hok hd hl hc.1.1.1 hc.1.1.2 hc.1.2 hc.2 hP k
theorem zv_iv1 (hB : zv_B cl FT KXf TBL MT y mm K rm good) (hok : zv_OK TBL cl KXf y mm2 rm2 P2 Q2) (hd : decode mm.2.1 pc = .ok (.invokevirtual i, 3)) (hl : zv_lk K MT (fun k => Nat.beq k 0) i = some mm2) (hc : ((n_O y).any (fun o => Nat.beq o.1 c && Nat.beq o.2 mm2.2.2.2.2.2) && Nat.beq 1 mm2.2.2.2.2.1 && (Nat.ble S.length 8 && S.all zv_n1) && (Nat.ble (rm2.1 + 1) rm.1 && Nat.ble (8 + (mm2.2.2.1 + 11) + rm2.2) rm.2)) = true)
    (hP : P2 [.inr c, a] F G) (k : ∀ r F' G', Q2 [.inr c, a] F G r F' G' → good (pc + 3) L (zv_ro r S) F' G') : good pc L (a :: .inr c :: S) F G := by
  rw [Bool.and_eq_true, Bool.and_eq_true, Bool.and_eq_true] at hc
  exact zv_inv0 (va := [a]) hB hok hd hl hc.1.1.1 hc.1.1.2 hc.1.2 hc.2 hP k
theorem zv_iv2 (hB : zv_B cl FT KXf TBL MT y mm K rm good) (hok : zv_OK TBL cl KXf y mm2 rm2 P2 Q2) (hd : decode mm.2.1 pc = .ok (.invokevirtual i, 3)) (hl : zv_lk K MT (fun k => Nat.beq k 0) i = some mm2) (hc : ((n_O y).any (fun o => Nat.beq o.1 c && Nat.beq o.2 mm2.2.2.2.2.2) && Nat.beq 2 mm2.2.2.2.2.1 && (Nat.ble S.length 8 && S.all zv_n1) && (Nat.ble (rm2.1 + 1) rm.1 && Nat.ble (8 + (mm2.2.2.1 + 11) + rm2.2) rm.2)) = true)
    (hP : P2 [.inr c, a, b] F G) (k : ∀ r F' G', Q2 [.inr c, a, b] F G r F' G' → good (pc + 3) L (zv_ro r S) F' G') : good pc L (b :: a :: .inr c :: S) F G := by
  rw [Bool.and_eq_true, Bool.and_eq_true, Bool.and_eq_true] at hc
  exact zv_inv0 (va := [a, b]) hB hok hd hl hc.1.1.1 hc.1.1.2 hc.1.2 hc.2 hP k
theorem zv_iv3 (hB : zv_B cl FT KXf TBL MT y mm K rm good) (hok : zv_OK TBL cl KXf y mm2 rm2 P2 Q2) (hd : decode mm.2.1 pc = .ok (.invokevirtual i, 3)) (hl : zv_lk K MT (fun k => Nat.beq k 0) i = some mm2) (hc : ((n_O y).any (fun o => Nat.beq o.1 c && Nat.beq o.2 mm2.2.2.2.2.2) && Nat.beq 3 mm2.2.2.2.2.1 && (Nat.ble S.length 8 && S.all zv_n1) && (Nat.ble (rm2.1 + 1) rm.1 && Nat.ble (8 + (mm2.2.2.1 + 11) + rm2.2) rm.2)) = true)
    (hP : P2 [.inr c, a, b, d] F G) (k : ∀ r F' G', Q2 [.inr c, a, b, d] F G r F' G' → good (pc + 3) L (zv_ro r S) F' G') : good pc L (d :: b :: a :: .inr c :: S) F G := by
  rw [Bool.and_eq_true, Bool.and_eq_true, Bool.and_eq_true] at hc
  exact zv_inv0 (va := [a, b, d]) hB hok hd hl hc.1.1.1 hc.1.1.2 hc.1.2 hc.2 hP k
theorem zv_it1 (hB : zv_B cl FT KXf TBL MT y mm K rm good) (hok : zv_OK TBL cl KXf y mm2 rm2 P2 Q2) (hd : decode mm.2.1 pc = .ok (.invokestatic i, 3)) (hl : zv_lk K MT (fun k => Nat.beq k 1 || Nat.beq k 4) i = some mm2) (hc : (Nat.beq 1 mm2.2.2.2.2.1 && (Nat.ble S.length 8 && S.all zv_n1) && (Nat.ble (rm2.1 + 1) rm.1 && Nat.ble (8 + (mm2.2.2.1 + 11) + rm2.2) rm.2)) = true)
    (hP : P2 [a] F G) (k : ∀ r F' G', Q2 [a] F G r F' G' → good (pc + 3) L (zv_ro r S) F' G') : good pc L (a :: S) F G := by
  rw [Bool.and_eq_true, Bool.and_eq_true] at hc
  exact zv_inv1 (va := [a]) hB hok hd hl hc.1.1 hc.1.2 hc.2 hP k
theorem zv_it2 (hB : zv_B cl FT KXf TBL MT y mm K rm good) (hok : zv_OK TBL cl KXf y mm2 rm2 P2 Q2) (hd : decode mm.2.1 pc = .ok (.invokestatic i, 3)) (hl : zv_lk K MT (fun k => Nat.beq k 1 || Nat.beq k 4) i = some mm2) (hc : (Nat.beq 2 mm2.2.2.2.2.1 && (Nat.ble S.length 8 && S.all zv_n1) && (Nat.ble (rm2.1 + 1) rm.1 && Nat.ble (8 + (mm2.2.2.1 + 11) + rm2.2) rm.2)) = true)
    (hP : P2 [a, b] F G) (k : ∀ r F' G', Q2 [a, b] F G r F' G' → good (pc + 3) L (zv_ro r S) F' G') : good pc L (b :: a :: S) F G := by
  rw [Bool.and_eq_true, Bool.and_eq_true] at hc
  exact zv_inv1 (va := [a, b]) hB hok hd hl hc.1.1 hc.1.2 hc.2 hP k
theorem zv_it3 (hB : zv_B cl FT KXf TBL MT y mm K rm good) (hok : zv_OK TBL cl KXf y mm2 rm2 P2 Q2) (hd : decode mm.2.1 pc = .ok (.invokestatic i, 3)) (hl : zv_lk K MT (fun k => Nat.beq k 1 || Nat.beq k 4) i = some mm2) (hc : (Nat.beq 3 mm2.2.2.2.2.1 && (Nat.ble S.length 8 && S.all zv_n1) && (Nat.ble (rm2.1 + 1) rm.1 && Nat.ble (8 + (mm2.2.2.1 + 11) + rm2.2) rm.2)) = true)
    (hP : P2 [a, b, d] F G) (k : ∀ r F' G', Q2 [a, b, d] F G r F' G' → good (pc + 3) L (zv_ro r S) F' G') : good pc L (d :: b :: a :: S) F G := by
  rw [Bool.and_eq_true, Bool.and_eq_true] at hc
  exact zv_inv1 (va := [a, b, d]) hB hok hd hl hc.1.1 hc.1.2 hc.2 hP k
theorem zv_it4 (hB : zv_B cl FT KXf TBL MT y mm K rm good) (hok : zv_OK TBL cl KXf y mm2 rm2 P2 Q2) (hd : decode mm.2.1 pc = .ok (.invokestatic i, 3)) (hl : zv_lk K MT (fun k => Nat.beq k 1 || Nat.beq k 4) i = some mm2) (hc : (Nat.beq 4 mm2.2.2.2.2.1 && (Nat.ble S.length 8 && S.all zv_n1) && (Nat.ble (rm2.1 + 1) rm.1 && Nat.ble (8 + (mm2.2.2.1 + 11) + rm2.2) rm.2)) = true)
    (hP : P2 [a, b, d, e] F G) (k : ∀ r F' G', Q2 [a, b, d, e] F G r F' G' → good (pc + 3) L (zv_ro r S) F' G') : good pc L (e :: d :: b :: a :: S) F G := by
  rw [Bool.and_eq_true, Bool.and_eq_true] at hc
  exact zv_inv1 (va := [a, b, d, e]) hB hok hd hl hc.1.1 hc.1.2 hc.2 hP k
end ZVARITY
end ZVDIV
