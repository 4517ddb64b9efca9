theorem fireQ1 {f : Nat → Int32} {R c k : Nat} (hR : R ≤ 11) (hc : c ≤ 24) (hk : k ≤ R + 1) (he : R + 1 ≤ k ∨ c ≤ k) : (R + 1 ≤ c ∧ ∀ i, i < k → (i = R ∨ f (i + 1) < f i)) ↔ (nI (R + 1) ≤ nI c ∧ ∀ i, i + 1 < R + 1 → f (i + 1) < f i) := by
  rw [nI_leI (by omega) (by omega)]
  constructor
  · intro h
    refine ⟨h.1, fun i hi => ?_⟩
    have h1 := h.1
    rcases h.2 i (by omega) with q | q
    · omega
    · exact q
  · intro h
    refine ⟨h.1, fun i hi => ?_⟩
    by_cases q : i = R
    · exact Or.inl q
    · exact Or.inr (h.2 i (by omega))
theorem fireQ2 {f : Nat → Int32} {mi : Int32} {R c k : Nat} (hR : R ≤ 11) (hc : c ≤ 24) (hk : k ≤ R + 1) (he : R + 1 ≤ k ∨ c ≤ k) : (R + 1 ≤ c ∧ ∀ i, i < k → mi < f i) ↔ (nI (R + 1) ≤ nI c ∧ ∀ i, i < R + 1 → mi < f i) := by
  rw [nI_leI (by omega) (by omega)]
  constructor
  · intro h
    have h1 := h.1
    exact ⟨h.1, fun i hi => h.2 i (by omega)⟩
  · intro h
    exact ⟨h.1, fun i hi => h.2 i (by omega)⟩
theorem bv_iff {rv : Int32} {P Q : Prop} (h : bv rv P) (e : P ↔ Q) : bv rv Q := by
  rcases h with h | h
  · exact Or.inl ⟨h.1, e.mp h.2⟩
  · exact Or.inr ⟨h.1, fun q => h.2 (e.mpr q)⟩
theorem not2 {x : Int32} : ¬ x ≤ 2 ↔ 3 ≤ x := by
  rw [Int32.le_iff_toInt_le, Int32.le_iff_toInt_le]
  have e2 : (2 : Int32).toInt = 2 := rfl
  have e3 : (3 : Int32).toInt = 3 := rfl
  omega
theorem apAbs {a b : Int32} {x y : Nat} (hx : x ≤ 1000000) (hy : y ≤ 1000000) (ha : a = nI x) (hb : b = nI y) : (if a < b then b - a else a - b) = (if 0 ≤ a - b then a - b else 0 - (a - b)) := by
  subst ha; subst hb
  by_cases h : x < y
  · rw [if_pos (nI_lt h (by omega)), if_neg (Int32.not_le.mpr (pk_sneg (by omega) h))]
    have : ∀ p q : Int32, q - p = 0 - (p - q) := by
      intro p q
      rw [Int32.zero_sub, Int32.neg_sub]
    exact this _ _
  · rw [if_neg (fun q => h ((nI_ltI (by omega) (by omega)).mp q)), if_pos (by rw [pk_sub (by omega)]; exact nI_pos' (by omega))]
/-- the readings of tool t when those above j have moved up by one -/
def mShF (f : Nat → Int32) (t j : Nat) : Nat → Int32 := fun x => if 24 * t + j < x ∧ x < 24 * t + 24 then f (x - 1) else f x
theorem mShF_23 (f : Nat → Int32) (t : Nat) : mShF f t 23 = f := by
  funext x
  unfold mShF
  rw [if_neg (by omega)]
theorem mShF_at {f : Nat → Int32} {t j x : Nat} (h : x ≤ 24 * t + j) : mShF f t j x = f x := by
  unfold mShF
  rw [if_neg (by omega)]
theorem mShF_s (f : Nat → Int32) (t i : Nat) (h : i + 1 ≤ 23) : upd (mShF f t (i + 1)) (24 * t + (i + 1)) (f (24 * t + i)) = mShF f t i := by
  funext x
  by_cases hx : x = 24 * t + (i + 1)
  · subst hx
    rw [pk_us]
    unfold mShF
    rw [if_pos (by omega)]
    congr 1
  · rw [pk_un hx]
    unfold mShF
    by_cases hq : 24 * t + i < x ∧ x < 24 * t + 24
    · rw [if_pos hq, if_pos (by omega)]
    · rw [if_neg hq, if_neg (by omega)]
def mPw (f : Nat → Int32) (t : Nat) (v : Int32) : Nat → Int32 := upd (mShF f t 0) (24 * t) v
theorem mPw_0 (f : Nat → Int32) (t : Nat) (v : Int32) : mPw f t v (24 * t + 0) = v := by
  unfold mPw
  rw [Nat.add_zero, pk_us]
theorem mPw_s (f : Nat → Int32) (t : Nat) (v : Int32) {k : Nat} (h : k < 23) : mPw f t v (24 * t + (k + 1)) = f (24 * t + k) := by
  unfold mPw
  rw [pk_un (by omega)]
  unfold mShF
  rw [if_pos (by omega)]
  congr 1
theorem mPw_o (f : Nat → Int32) {t t2 : Nat} (v : Int32) {k : Nat} (h : t2 ≠ t) (hk : k < 24) : mPw f t v (24 * t2 + k) = f (24 * t2 + k) := by
  unfold mPw
  rw [pk_un (by omega)]
  unfold mShF
  rw [if_neg (by omega)]
theorem va_id {α : Type} (A : Nat → α) (k : Nat) : va_up A k (A k) = A := by
  funext x
  by_cases h : x = k
  · rw [h, va_up_self]
  · rw [va_up_ne _ _ h]
/-- order o of the reference is due -/
def mDu (A : Nat → Nat → Int32) (to : Nat → Nat) (q b : Int32) (o : Nat) : Bool := decide (A 3 (to o) = q ∧ A 25 o < b)
/-- order o stays -/
def mKp (A : Nat → Nat → Int32) (to : Nat → Nat) (d q b : Int32) (o : Nat) : Bool := decide (¬ (¬ d = 0 ∧ A 3 (to o) = q ∧ A 25 o < b))
/-- the array when those that stay of the first k have moved down -/
def mCp (f : Nat → Int32) (P : Nat → Bool) : Nat → Nat → Int32
  | 0 => f
  | k + 1 => if P k = true then upd (mCp f P k) (eCnt P k) (f k) else mCp f P k
theorem mCp_pos {f : Nat → Int32} {P : Nat → Bool} {k : Nat} (h : P k = true) : mCp f P (k + 1) = upd (mCp f P k) (eCnt P k) (f k) := if_pos h
theorem mCp_neg {f : Nat → Int32} {P : Nat → Bool} {k : Nat} (h : ¬ P k = true) : mCp f P (k + 1) = mCp f P k := if_neg h
theorem mCp_at {f : Nat → Int32} {P : Nat → Bool} : ∀ {k x : Nat}, k ≤ x → mCp f P k x = f x := by
  intro k
  induction k with
  | zero => intro x _; rfl
  | succ k ih =>
    intro x h
    by_cases hp : P k = true
    · rw [mCp_pos hp, pk_un (by have := eCnt_le P k; omega)]
      exact ih (by omega)
    · rw [mCp_neg hp]
      exact ih (by omega)
theorem four_de (d e : Nat) : 4 * (d * e) ≤ (d + e) * (d + e) := by
  rcases Nat.le_total d e with h | h
  · obtain ⟨k, rfl⟩ := Nat.exists_eq_add_of_le h
    have h1 := Nat.mul_comm k d
    simp only [Nat.mul_add, Nat.add_mul]
    omega
  · obtain ⟨k, rfl⟩ := Nat.exists_eq_add_of_le h
    have h1 := Nat.mul_comm k e
    simp only [Nat.mul_add, Nat.add_mul]
    omega
/-- 4 a a d (w - d) is at most a a w w -/
theorem sq_le {a d w : Nat} (h : d ≤ w) : 4 * a * a * d * (w - d) ≤ a * a * (w * w) := by
  obtain ⟨e, rfl⟩ := Nat.exists_eq_add_of_le h
  rw [Nat.add_sub_cancel_left]
  have h1 := Nat.mul_le_mul_left (a * a) (four_de d e)
  have h2 : 4 * a * a * d * e = a * a * (4 * (d * e)) := by
    simp only [Nat.mul_assoc, Nat.mul_comm, Nat.mul_left_comm]
  omega
theorem bnd3 {x y z a b c : Nat} (h1 : x ≤ a) (h2 : y ≤ b) (h3 : z ≤ c) : x * y * z ≤ a * b * c := Nat.mul_le_mul (Nat.mul_le_mul h1 h2) h3
