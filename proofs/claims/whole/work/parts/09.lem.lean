theorem vpc (i : Int32) (n : Nat) (h : decide (¬ (i < 0 ∨ n ≤ i.toNatClampNeg)) = true) : vp_in i n := show ¬ (i < 0 ∨ n ≤ i.toNatClampNeg) from of_decide_eq_true h
/-- a boolean answer -/
def bv (rv : Int32) (P : Prop) : Prop := (rv = 1 ∧ P) ∨ (rv = 0 ∧ ¬ P)
theorem bv1 {P : Prop} (h : P) : bv 1 P := Or.inl ⟨rfl, h⟩
theorem bv0 {P : Prop} (h : ¬ P) : bv 0 P := Or.inr ⟨rfl, h⟩
theorem bv_ne {rv : Int32} {P : Prop} (h : bv rv P) (h0 : ¬ rv = 0) : P := by
  rcases h with h | h
  · exact h.2
  · exact absurd h.1 h0
theorem bv_eq {rv : Int32} {P : Prop} (h : bv rv P) (h0 : rv = 0) : ¬ P := by
  rcases h with h | h
  · rw [h.1] at h0; exact absurd h0 (by decide)
  · exact h.2
theorem bv_nar {rv : Int32} {P : Prop} (h : bv rv P) : narrow .boolean (.int rv) = .int rv := by
  rcases h with h | h <;> rw [h.1] <;> rfl
def eCost (f : Nat → Int32) (ch fa p : Int32) : Nat → Int64
  | 0 => 0
  | k + 1 => eCost f ch fa p k + (if f k < p then fa.toInt64 else ch.toInt64)
def eUses (f : Nat → Int32) (p : Int32) : Nat → Int64
  | 0 => 0
  | k + 1 => eUses f p k + (if p < f k then p else f k).toInt64
def eMax (f : Nat → Int32) : Nat → Int32
  | 0 => 0
  | k + 1 => if eMax f k < f k then f k else eMax f k
/-- life n is better than life b -/
def eBetter (f : Nat → Int32) (ch fa : Int32) (c : Nat) (n b : Int32) : Prop :=
  eCost f ch fa n c * eUses f b c < eCost f ch fa b c * eUses f n c ∨ (eCost f ch fa n c * eUses f b c = eCost f ch fa b c * eUses f n c ∧ b < n)
noncomputable def eBest (f : Nat → Int32) (ch fa : Int32) (c : Nat) : Nat → Int32
  | 0 => f 0
  | k + 1 => @ite Int32 (eBetter f ch fa c (f (k + 1)) (eBest f ch fa c k)) (Classical.propDecidable _) (f (k + 1)) (eBest f ch fa c k)
theorem eBest_pos {f : Nat → Int32} {ch fa : Int32} {c k : Nat} (h : eBetter f ch fa c (f (k + 1)) (eBest f ch fa c k)) : eBest f ch fa c (k + 1) = f (k + 1) := @if_pos _ (Classical.propDecidable _) h _ _ _
theorem eBest_neg {f : Nat → Int32} {ch fa : Int32} {c k : Nat} (h : ¬ eBetter f ch fa c (f (k + 1)) (eBest f ch fa c k)) : eBest f ch fa c (k + 1) = eBest f ch fa c k := @if_neg _ (Classical.propDecidable _) h _ _ _
