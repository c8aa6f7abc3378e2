/-! The place of a letter in the string constant (to be proved). -/
def zi_idx : List Int → Int → Int → Int
  | [], _, _ => -1
  | x :: L, k, c => if x = c then k else zi_idx L (k + 1) c
def zi_letter (c : Int) : Int := zi_idx [104, 117, 105, 109, 114, 99, 107, 110, 115, 101, 120, 121, 100] 0 c
section ZVLET
variable {cl : List vw_C} {FT : Nat → Nat → FieldType} {TBL : List Cond} {MT : List zM} {y : zNL} {mm : zM} {K : zK} {rm : Nat × Nat} {good : Nat → List zNV → List zNV → List zNV → List (Int → Int) → Prop}
variable {pc : Nat} {L S : List zNV} {F : List zNV} {G : List (Int → Int)}
theorem zv_letter (hB : zv_B cl FT z_KX TBL MT y mm K rm good) {i : Nat} {a : Int} (hd : decode mm.2.1 pc = .ok (.invokevirtual i, 3)) (h1 : 6 ≤ rm.1) (h2 : 360 ≤ rm.2) (k : good (pc + 3) L (.inl (zi_letter a) :: S) F G) : good pc L (.inl a :: .inr 902 :: S) F G := sorry
end ZVLET
