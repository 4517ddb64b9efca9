theorem updL2 {n : Nat} (f : Nat → Int64) (x y : Int64) : vp_updL (vp_updL f n x) n y = vp_updL f n y := by
  funext k
  unfold vp_updL
  by_cases h : k = n
  · simp [h]
  · simp [h]
theorem p2_of {p : Int32} (h : ¬ (p < 0 ∨ 5 < p)) (h3 : ¬ 3 ≤ p) (h0 : ¬ p = 0) (h1 : ¬ p = 1) : p = 2 := by
  rw [Int32.lt_iff_toInt_lt, Int32.lt_iff_toInt_lt] at h
  rw [Int32.le_iff_toInt_le] at h3
  rw [← Int32.toInt_inj] at h0 h1 ⊢
  have e0 : (0 : Int32).toInt = 0 := rfl
  have e1 : (1 : Int32).toInt = 1 := rfl
  have e2 : (2 : Int32).toInt = 2 := rfl
  have e3 : (3 : Int32).toInt = 3 := rfl
  have e5 : (5 : Int32).toInt = 5 := rfl
  omega
theorem p5_of {p : Int32} (h : ¬ (p < 0 ∨ 5 < p)) (h3 : 3 ≤ p) (h0 : ¬ p = 3) (h1 : ¬ p = 4) : p = 5 := by
  rw [Int32.lt_iff_toInt_lt, Int32.lt_iff_toInt_lt] at h
  rw [Int32.le_iff_toInt_le] at h3
  rw [← Int32.toInt_inj] at h0 h1 ⊢
  have e0 : (0 : Int32).toInt = 0 := rfl
  have e4 : (4 : Int32).toInt = 4 := rfl
  have e3 : (3 : Int32).toInt = 3 := rfl
  have e5 : (5 : Int32).toInt = 5 := rfl
  omega
theorem nI_nm1 {t : Nat} (h : t < 2 ^ 31) : ¬ nI t = -1 := by
  intro q
  have h1 := congrArg Int32.toNatClampNeg q
  rw [nI_clamp h] at h1
  have h2 : (-1 : Int32).toNatClampNeg = 0 := rfl
  rw [h2] at h1
  subst h1
  exact absurd q (by decide)
/-- tool t is a spare one, in the reference -/
def mSp (A : Nat → Nat → Int32) (B : Nat → Nat → Int64) (p : Int32) (t : Nat) : Bool := decide (A 3 t = p ∧ A 7 t = 0 ∧ B 6 t = 0 ∧ A 8 t = 0)
def mNx (P : Nat → Bool) (len : Nat → Int32) : Nat → Option Nat
  | 0 => none
  | k + 1 => match mNx P len k with
    | none => if P k = true then some k else none
    | some t => if P k = true ∧ len k < len t then some k else some t
def mO : Option Nat → Int32
  | none => -1
  | some t => nI t
theorem mNx_n {P : Nat → Bool} {len : Nat → Int32} {k : Nat} (h : mNx P len k = none) (hp : P k = true) : mNx P len (k + 1) = some k := by
  unfold mNx
  rw [h]
  show (if P k = true then some k else none) = some k
  rw [if_pos hp]
theorem mNx_s {P : Nat → Bool} {len : Nat → Int32} {k t : Nat} (h : mNx P len k = some t) (hp : P k = true) (hl : len k < len t) : mNx P len (k + 1) = some k := by
  unfold mNx
  rw [h]
  show (if P k = true ∧ len k < len t then some k else some t) = some k
  rw [if_pos ⟨hp, hl⟩]
theorem mNx_f {P : Nat → Bool} {len : Nat → Int32} {k : Nat} (hp : ¬ P k = true) : mNx P len (k + 1) = mNx P len k := by
  cases h : mNx P len k with
  | none =>
    unfold mNx
    rw [h]
    show (if P k = true then some k else none) = none
    rw [if_neg hp]
  | some t =>
    unfold mNx
    rw [h]
    show (if P k = true ∧ len k < len t then some k else some t) = some t
    rw [if_neg (fun q => hp q.1)]
theorem mNx_l {P : Nat → Bool} {len : Nat → Int32} {k t : Nat} (h : mNx P len k = some t) (hl : ¬ len k < len t) : mNx P len (k + 1) = mNx P len k := by
  rw [h]
  unfold mNx
  rw [h]
  show (if P k = true ∧ len k < len t then some k else some t) = some t
  rw [if_neg (fun q => hl q.2)]
theorem mNx_or (P : Nat → Bool) (len : Nat → Int32) : ∀ k, mNx P len k = none ∨ ∃ t, t < k ∧ P t = true ∧ mNx P len k = some t := by
  intro k
  induction k with
  | zero => exact Or.inl rfl
  | succ k ih =>
    by_cases hp : P k = true
    · rcases ih with h | ⟨t, h1, h2, h3⟩
      · exact Or.inr ⟨k, Nat.lt_succ_self k, hp, mNx_n h hp⟩
      · by_cases hl : len k < len t
        · exact Or.inr ⟨k, Nat.lt_succ_self k, hp, mNx_s h3 hp hl⟩
        · exact Or.inr ⟨t, Nat.lt_succ_of_lt h1, h2, (mNx_l h3 hl).trans h3⟩
    · rw [mNx_f hp]
      rcases ih with h | ⟨t, h1, h2, h3⟩
      · exact Or.inl h
      · exact Or.inr ⟨t, Nat.lt_succ_of_lt h1, h2, h3⟩
theorem minI {p l : Int32} (h : p ≤ l) : (if p < l then p else l) = p := by
  by_cases q : p < l
  · rw [if_pos q]
  · rw [if_neg q]
    exact Int32.le_antisymm (Int32.not_lt.mp q) h
