/-! a place of the two slots, by its number -/
theorem sqb_0 {u v : Option Nat} {q : Nat} : va_up (sq u v) 0 (some q) = sq (some q) v := sqa_0
theorem sqb_1 {u v : Option Nat} {q : Nat} : va_up (sq u v) 1 (some q) = sq u (some q) := sqa_1
