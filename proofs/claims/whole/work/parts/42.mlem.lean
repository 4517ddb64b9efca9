theorem inJ {p lo hi : Int32} {a b : Int64} (ha : lo.toInt64 = a) (hb : hi.toInt64 = b) : (a ≤ p.toInt64 ∧ p.toInt64 ≤ b) ↔ ¬ (p < lo ∨ hi < p) := by
  subst ha; subst hb
  exact inI
theorem inL {p a b : Int64} : (a ≤ p ∧ p ≤ b) ↔ ¬ (p < a ∨ b < p) := by
  rw [Int64.le_iff_toInt_le, Int64.le_iff_toInt_le, Int64.lt_iff_toInt_lt, Int64.lt_iff_toInt_lt]
  omega
