theorem lt01 {p : Int32} (h : p < 0) : p < 1 := by
  rw [Int32.lt_iff_toInt_lt] at *
  have e0 : (0 : Int32).toInt = 0 := rfl
  have e1 : (1 : Int32).toInt = 1 := rfl
  omega
theorem bnd2 {x y a b : Nat} (h1 : x ≤ a) (h2 : y ≤ b) : x * y ≤ a * b := Nat.mul_le_mul h1 h2
theorem top_lt {a d w : Nat} (ha : a ≤ 1000000) (hw : 1 ≤ w) (h : 4 * a * a * d * (w - d) ≤ a * a * (w * w)) : 4 * a * a * d * (w - d) < 1000001 * 1000001 * (w * w) := by
  have h1 := Nat.mul_le_mul_right (w * w) (Nat.mul_le_mul ha ha)
  have h2 : 0 < w * w := Nat.mul_pos hw hw
  have h3 := (Nat.mul_lt_mul_right h2).mpr (show 1000000 * 1000000 < 1000001 * 1000001 by decide)
  omega
