/-! What is claimed: type, name, slot (a field or an entry), the name of the int that stands there, the flag's name, the flag's type. -/
def zc_CL : List (Nat × Nat × ((Nat × Nat) ⊕ Nat) × Nat × Nat × Nat) := [(1, 10, .inl (1, 0), 20, 15, 3), (2, 12, .inr 126, 21, 16, 4)]
