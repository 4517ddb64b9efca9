/-! the best time to change, in whole numbers: costs and uses of the lives f 0 .. f (c - 1), change C, fail F -/
def bc (f : Nat → Nat) (C F : Nat) : Nat → Nat → Nat
  | 0, _ => 0
  | c + 1, n => bc f C F c n + (if f c < n then F else C)
def bu (f : Nat → Nat) : Nat → Nat → Nat
  | 0, _ => 0
  | c + 1, n => bu f c n + (if f c ≤ n then f c else n)
/-- n is better than k -/
def bb (f : Nat → Nat) (C F c n k : Nat) : Prop := bc f C F c n * bu f c k < bc f C F c k * bu f c n ∨ (bc f C F c n * bu f c k = bc f C F c k * bu f c n ∧ k < n)
theorem fr_le {x1 u1 x2 u2 x3 u3 : Nat} (h2 : 0 < u2) (h12 : x1 * u2 ≤ x2 * u1) (h23 : x2 * u3 ≤ x3 * u2) : x1 * u3 ≤ x3 * u1 := by
  have h := Nat.mul_le_mul_right u3 h12
  have k := Nat.mul_le_mul_right u1 h23
  have e : x1 * u3 * u2 ≤ x3 * u1 * u2 := by
    calc x1 * u3 * u2 = x1 * u2 * u3 := Nat.mul_right_comm _ _ _
      _ ≤ x2 * u1 * u3 := h
      _ = x2 * u3 * u1 := Nat.mul_right_comm _ _ _
      _ ≤ x3 * u2 * u1 := k
      _ = x3 * u1 * u2 := Nat.mul_right_comm _ _ _
  exact Nat.le_of_mul_le_mul_right e h2
theorem fr_eq {x1 u1 x2 u2 x3 u3 : Nat} (h2 : 0 < u2) (h1 : 0 < u1) (h3 : 0 < u3) (h12 : x1 * u2 ≤ x2 * u1) (h23 : x2 * u3 ≤ x3 * u2) (h : x3 * u1 ≤ x1 * u3) : x2 * u1 ≤ x1 * u2 ∧ x3 * u2 ≤ x2 * u3 := by
  exact ⟨fr_le h3 h23 h, fr_le h1 h h12⟩
theorem bb_trans {f : Nat → Nat} {C F c a b d : Nat} (ha : 0 < bu f c a) (hb : 0 < bu f c b) (hd : 0 < bu f c d) (h1 : bb f C F c a b) (h2 : bb f C F c b d) : bb f C F c a d := by
  unfold bb at *
  have e1 : bc f C F c a * bu f c b ≤ bc f C F c b * bu f c a := by omega
  have e2 : bc f C F c b * bu f c d ≤ bc f C F c d * bu f c b := by omega
  have e3 := fr_le hb e1 e2
  by_cases h : bc f C F c a * bu f c d < bc f C F c d * bu f c a
  · exact Or.inl h
  · have h9 : bc f C F c d * bu f c a ≤ bc f C F c a * bu f c d := Nat.not_lt.mp h
    obtain ⟨q1, q2⟩ := fr_eq hb ha hd e1 e2 h9
    refine Or.inr ⟨Nat.le_antisymm e3 h9, ?_⟩
    omega
theorem bb_asym {f : Nat → Nat} {C F c a b : Nat} (h1 : bb f C F c a b) (h2 : bb f C F c b a) : False := by
  unfold bb at *
  omega
theorem bb_total {f : Nat → Nat} {C F c a b : Nat} (h : a ≠ b) : bb f C F c a b ∨ bb f C F c b a := by
  unfold bb
  omega
theorem bu_pos {f : Nat → Nat} : ∀ {c n : Nat}, 0 < c → 0 < n → (∀ i, i < c → 0 < f i) → 0 < bu f c n := by
  intro c n hc hn hf
  cases c with
  | zero => omega
  | succ c =>
    have := hf c (by omega)
    unfold bu
    split <;> omega
/-- no life lies between n and k: the costs are the same -/
theorem bc_same {f : Nat → Nat} {C F : Nat} : ∀ {c n k : Nat}, n ≤ k → (∀ i, i < c → f i < n ∨ k ≤ f i) → bc f C F c n = bc f C F c k := by
  intro c
  induction c with
  | zero => intro n k _ _; rfl
  | succ c ih =>
    intro n k hnk h
    have h1 := ih hnk (fun i hi => h i (by omega))
    have h2 := h c (by omega)
    unfold bc
    rw [h1]
    rcases h2 with q | q
    · rw [if_pos q, if_pos (by omega)]
    · rw [if_neg (by omega), if_neg (by omega)]
theorem bu_le {f : Nat → Nat} : ∀ {c n k : Nat}, n ≤ k → bu f c n ≤ bu f c k := by
  intro c
  induction c with
  | zero => intro n k _; exact Nat.le_refl _
  | succ c ih =>
    intro n k h
    have := ih h
    unfold bu
    split <;> split <;> omega
theorem bu_lt {f : Nat → Nat} : ∀ {c n k i : Nat}, n < k → i < c → k ≤ f i → bu f c n < bu f c k := by
  intro c
  induction c with
  | zero => intro n k i _ h _; omega
  | succ c ih =>
    intro n k i h hi hk
    unfold bu
    by_cases e : i = c
    · subst e
      have := bu_le (f := f) (c := i) (Nat.le_of_lt h)
      rw [if_neg (by omega)]
      split <;> omega
    · have := ih h (show i < c by omega) hk
      split <;> split <;> omega
/-- any n that is no life has the next life above it as a better one -/
theorem bb_next {f : Nat → Nat} {C F c n k i : Nat} (h : n < k) (hi : i < c) (hk : k = f i) (hn : ∀ j, j < c → f j < n ∨ k ≤ f j) : bb f C F c k n := by
  unfold bb
  have e := bc_same (C := C) (F := F) (Nat.le_of_lt h) hn
  have u := bu_lt (f := f) h hi (by omega)
  rw [e]
  rcases Nat.eq_zero_or_pos (bc f C F c k) with z | z
  · rw [z]; right; exact ⟨by simp, h⟩
  · left; exact Nat.mul_lt_mul_of_pos_left u z
/-- the least life that is not below n -/
theorem next_life {f : Nat → Nat} {c n : Nat} (h : ∃ i, i < c ∧ n ≤ f i) : ∃ i, i < c ∧ n ≤ f i ∧ ∀ j, j < c → f j < n ∨ f i ≤ f j := by
  obtain ⟨v, ⟨i, hi, hn, hv⟩, hl⟩ := pk_least (fun v => ∃ i, i < c ∧ n ≤ f i ∧ f i = v) (by obtain ⟨i, h1, h2⟩ := h; exact ⟨f i, i, h1, h2, rfl⟩)
  refine ⟨i, hi, hn, fun j hj => ?_⟩
  by_cases q : f j < n
  · exact Or.inl q
  · right
    rw [hv]
    apply Nat.le_of_not_lt
    intro q2
    exact hl _ q2 ⟨j, hj, by omega, rfl⟩
/-- what is best among the lives is best among all n up to the greatest -/
theorem best_all {f : Nat → Nat} {C F c b : Nat} (hc : 0 < c) (hf : ∀ i, i < c → 0 < f i) (hb : ∃ i, i < c ∧ f i = b) (h : ∀ i, i < c → f i = b ∨ bb f C F c b (f i)) : ∀ n, 0 < n → (∃ i, i < c ∧ n ≤ f i) → n = b ∨ bb f C F c b n := by
  intro n hn he
  obtain ⟨i, hi, h1, h2⟩ := next_life he
  have up : ∀ k, 0 < k → 0 < bu f c k := fun k hk => bu_pos hc hk hf
  rcases Nat.lt_or_ge n (f i) with q | q
  · have n1 := bb_next (C := C) (F := F) q hi rfl h2
    rcases h i hi with e | e
    · right; rw [← e]; exact n1
    · right
      obtain ⟨j, hj, ej⟩ := hb
      exact bb_trans (up b (by rw [← ej]; exact hf j hj)) (up _ (hf i hi)) (up _ hn) e n1
  · have e : n = f i := by omega
    rw [e]
    exact h i hi
theorem best_one {f : Nat → Nat} {C F c a b : Nat} (h1 : a = b ∨ bb f C F c b a) (h2 : b = a ∨ bb f C F c a b) : a = b := by
  rcases h1 with h1 | h1
  · exact h1
  · rcases h2 with h2 | h2
    · exact h2.symm
    · exact (bb_asym h1 h2).elim
