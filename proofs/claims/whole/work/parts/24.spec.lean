theorem wb_tb (n : Nat) : (lN n).toBitVec = BitVec.ofNat 64 n := rfl
theorem wb_inj {a b : Int64} (h : a.toBitVec = b.toBitVec) : a = b := Int64.toBitVec_inj.mp h
theorem wb_tn {n : Nat} (h : n < 2 ^ 64) : (lN n).toBitVec.toNat = n := by rw [wb_tb, BitVec.toNat_ofNat, Nat.mod_eq_of_lt h]
theorem wb_of (x : Int64) : ∃ n, n < 2 ^ 64 ∧ x = lN n := ⟨x.toBitVec.toNat, x.toBitVec.isLt, wb_inj (by rw [wb_tb]; simp)⟩
theorem wb_of32 (x : Int32) : ∃ n, n < 2 ^ 32 ∧ x = nI n := ⟨x.toBitVec.toNat, x.toBitVec.isLt, Int32.toBitVec_inj.mp (by show _ = BitVec.ofNat 32 _; simp)⟩
theorem wb_c : ∀ k, k < 64 → ((nI k).toInt64 &&& 63) = lN k := by decide +kernel
theorem wb_cu : ∀ k, k < 64 → ((nI k).toInt64.toUInt64 &&& Int64.toUInt64 63) = UInt64.ofNat k := by decide +kernel
theorem wb_sm : ∀ k, k < 64 → (BitVec.ofNat 64 k).smod 64 = BitVec.ofNat 64 k := by decide +kernel
theorem wb_pw {a b : Nat} (h : a ≤ b) : 2 ^ b = 2 ^ a * 2 ^ (b - a) := by rw [← Nat.pow_add]; congr 1; omega
theorem wb_lt2 {a b : Nat} (h : a < b) : 2 ^ a < 2 ^ b := Nat.pow_lt_pow_right (by decide) h
theorem wb_mod (n : Nat) : lN n = lN (n % 2 ^ 64) := wb_inj (by rw [wb_tb, wb_tb]; apply BitVec.eq_of_toNat_eq; rw [BitVec.toNat_ofNat, BitVec.toNat_ofNat, Nat.mod_mod])
theorem wb_shr {n k : Nat} (hn : n < 2 ^ 64) (hk : k < 64) : ((lN n).toUInt64 >>> ((nI k).toInt64.toUInt64 &&& Int64.toUInt64 63)).toInt64 = lN (n / 2 ^ k) := by
  rw [wb_cu k hk]
  apply wb_inj
  apply BitVec.eq_of_toNat_eq
  show ((lN n).toUInt64 >>> UInt64.ofNat k).toNat = (BitVec.ofNat 64 _).toNat
  have h1 : (UInt64.ofNat k).toNat = k := by
    show (BitVec.ofNat 64 k).toNat = k
    rw [BitVec.toNat_ofNat, Nat.mod_eq_of_lt (by omega)]
  have h2 : (lN n).toUInt64.toNat = n := wb_tn hn
  rw [UInt64.toNat_shiftRight, h1, h2, Nat.mod_eq_of_lt hk, Nat.shiftRight_eq_div_pow, BitVec.toNat_ofNat, Nat.mod_eq_of_lt (Nat.lt_of_le_of_lt (Nat.div_le_self _ _) hn)]
def eCnt (P : Nat → Bool) : Nat → Nat
  | 0 => 0
  | k + 1 => eCnt P k + (if P k = true then 1 else 0)
theorem eCnt_le (P : Nat → Bool) : ∀ k, eCnt P k ≤ k := by
  intro k
  induction k with
  | zero => exact Nat.le_refl 0
  | succ k ih =>
    show eCnt P k + (if P k = true then 1 else 0) ≤ k + 1
    by_cases h : P k = true
    · rw [if_pos h]; omega
    · rw [if_neg h]; omega
theorem eCnt_pos {P : Nat → Bool} {k : Nat} (h : P k = true) : eCnt P (k + 1) = eCnt P k + 1 := by
  show eCnt P k + (if P k = true then 1 else 0) = _
  rw [if_pos h]
theorem eCnt_neg {P : Nat → Bool} {k : Nat} (h : ¬ P k = true) : eCnt P (k + 1) = eCnt P k := by
  show eCnt P k + (if P k = true then 1 else 0) = _
  rw [if_neg h]
  rfl
/-- the spare tool with the least length so far -/
def eNx (P : Nat → Bool) (len : Nat → Int32) : Nat → Int32 × Int32
  | 0 => (-1, 1000001)
  | k + 1 => if P k = true ∧ len k < (eNx P len k).2 then (nI k, len k) else eNx P len k
theorem eNx_pos {P : Nat → Bool} {len : Nat → Int32} {k : Nat} (h : P k = true) (h2 : len k < (eNx P len k).2) : eNx P len (k + 1) = (nI k, len k) := by
  show (if P k = true ∧ len k < (eNx P len k).2 then (nI k, len k) else eNx P len k) = _
  rw [if_pos ⟨h, h2⟩]
theorem eNx_neg {P : Nat → Bool} {len : Nat → Int32} {k : Nat} (h : ¬ (P k = true ∧ len k < (eNx P len k).2)) : eNx P len (k + 1) = eNx P len k := by
  show (if P k = true ∧ len k < (eNx P len k).2 then (nI k, len k) else eNx P len k) = _
  rw [if_neg h]
theorem eNx_in (P : Nat → Bool) (len : Nat → Int32) : ∀ k, (eNx P len k).1 = -1 ∨ ∃ t, t < k ∧ P t = true ∧ (eNx P len k).1 = nI t := by
  intro k
  induction k with
  | zero => exact Or.inl rfl
  | succ k ih =>
    by_cases h : P k = true ∧ len k < (eNx P len k).2
    · rw [eNx_pos h.1 h.2]
      exact Or.inr ⟨k, Nat.lt_succ_self k, h.1, rfl⟩
    · rw [eNx_neg h]
      rcases ih with q | ⟨t, h1, h2, h3⟩
      · exact Or.inl q
      · exact Or.inr ⟨t, Nat.lt_succ_of_lt h1, h2, h3⟩
/-- tool t is a spare one of sort i -/
def eSp (I : Nat → Nat → Int32) (J : Nat → Nat → Int64) (si : Nat → Nat) (tc : Nat) (q : Int32) (t : Nat) : Bool := decide (t < tc ∧ nI (si t) = q ∧ I 7 t = 0 ∧ I 8 t = 0 ∧ J 1 t = 0)
def eSh (z : Int64) (k : Int32) : Int64 := (z.toUInt64 >>> (k.toInt64.toUInt64 &&& Int64.toUInt64 63)).toInt64
def eMx1 (z : Int64) : Int64 := (z ^^^ eSh z 30) * (-4658895280553007687)
def eMx2 (z : Int64) : Int64 := (z ^^^ eSh z 27) * (-7723592293110705685)
def eMx3 (z : Int64) : Int64 := z ^^^ eSh z 31
def eMix (seed : Int64) (so k : Int32) : Int64 := eMx3 (eMx2 (eMx1 (seed + (4 * k.toInt64 + so.toInt64 + 1) * (-7046029254386353131))))
/-- order t is due -/
def eDu (I : Nat → Nat → Int32) (oc : Nat) (q b : Int32) (t : Nat) : Bool := decide (t < oc ∧ I 13 t = 0 ∧ I 11 t = q ∧ I 12 t < b)
def eOp (I : Nat → Nat → Int32) (oc : Nat) (t : Nat) : Bool := decide (t < oc ∧ I 13 t = 0)
/-- the marks when the due ones below k are done -/
def eCl (I : Nat → Nat → Int32) (oc : Nat) (q b : Int32) : Nat → Nat → Nat → Int32
  | 0 => I
  | k + 1 => if eDu I oc q b k = true then up2 (eCl I oc q b k) 13 k 1 else eCl I oc q b k
theorem eCl_ne {I : Nat → Nat → Int32} {oc : Nat} {q b : Int32} : ∀ {k a j : Nat}, (a ≠ 13 ∨ k ≤ j) → eCl I oc q b k a j = I a j := by
  intro k
  induction k with
  | zero => intro a j _; rfl
  | succ k ih =>
    intro a j h
    show (if eDu I oc q b k = true then up2 (eCl I oc q b k) 13 k 1 else eCl I oc q b k) a j = _
    by_cases hd : eDu I oc q b k = true
    · rw [if_pos hd, up2_ne _ _ (by omega)]
      exact ih (by omega)
    · rw [if_neg hd]
      exact ih (by omega)
/-- the thickness from its highest bit down: n bits are left -/
def eTh (sq : Int64) (w : Int32) : Nat → Int32 → Int32
  | 0, x => x
  | n + 1, x => if sq < (x + nI (2 ^ n)).toInt64 * w.toInt64 * ((x + nI (2 ^ n)).toInt64 * w.toInt64) then eTh sq w n x else eTh sq w n (x + nI (2 ^ n))
