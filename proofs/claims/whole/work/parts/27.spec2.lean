def eIx (z : Int64) (kc : Nat) : Nat := (z.toBitVec.toNat / 2) % kc
theorem eIx_lt (z : Int64) {kc : Nat} (h1 : 1 ≤ kc) : eIx z kc < kc := Nat.mod_lt _ h1
theorem eIx_spec (z : Int64) {kc : Nat} (h1 : 1 ≤ kc) (h2 : kc ≤ 40) : (eSh z 1 - eSh z 1 / (nI kc).toInt64 * (nI kc).toInt64).toInt32 = nI (eIx z kc) := by
  have hz : z = lN z.toBitVec.toNat := wb_inj (by rw [wb_tb]; simp)
  have hn : z.toBitVec.toNat < 2 ^ 64 := z.toBitVec.isLt
  have e1 : eSh z 1 = lN (z.toBitVec.toNat / 2) := by
    have h := wb_shr (k := 1) hn (by decide)
    rw [← hz] at h
    exact h
  rw [e1, nI_l (by omega), pk_lRem (by omega) (by omega) (by omega), lN_i]
  rfl
def eSq (p0 p1 p2 : Int32) : Int64 := 4 * p0.toInt64 * p0.toInt64 * p1.toInt64 * (p2 - p1).toInt64
def eChip (p0 p1 p2 p3 : Int32) : Int32 := if p3 = 1 ∧ (eTh (eSq p0 p1 p2) p2 20 0).toInt64 * p2.toInt64 * ((eTh (eSq p0 p1 p2) p2 20 0).toInt64 * p2.toInt64) < eSq p0 p1 p2 then eTh (eSq p0 p1 p2) p2 20 0 + 1 else eTh (eSq p0 p1 p2) p2 20 0
theorem eTh_s {sq : Int64} {w : Int32} {n : Nat} {x : Int32} : eTh sq w (n + 1) x = if sq < (x + nI (2 ^ n)).toInt64 * w.toInt64 * ((x + nI (2 ^ n)).toInt64 * w.toInt64) then eTh sq w n x else eTh sq w n (x + nI (2 ^ n)) := rfl
