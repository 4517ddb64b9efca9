theorem p01 {p : Int32} : ¬ (p < 0 ∨ 1 < p) ↔ (p = 0 ∨ p = 1) := by
  rw [Int32.lt_iff_toInt_lt, Int32.lt_iff_toInt_lt, ← Int32.toInt_inj, ← Int32.toInt_inj]
  have e0 : (0 : Int32).toInt = 0 := rfl
  have e1 : (1 : Int32).toInt = 1 := rfl
  omega
theorem eMax_nI {f : Nat → Int32} {b : Nat} (hb : b < 2 ^ 31) : ∀ {c : Nat}, (∀ k, k < c → ∃ v, v ≤ b ∧ f k = nI v) → ∃ m, m ≤ b ∧ eMax f c = nI m := by
  intro c
  induction c with
  | zero => intro _; exact ⟨0, Nat.zero_le _, rfl⟩
  | succ c ih =>
    intro h
    obtain ⟨m, hm, em⟩ := ih (fun k hk => h k (Nat.lt_succ_of_lt hk))
    obtain ⟨v, hv, ev⟩ := h c (Nat.lt_succ_self c)
    by_cases q : eMax f c < f c
    · exact ⟨v, hv, by rw [← ev]; exact if_pos q⟩
    · exact ⟨m, hm, by rw [← em]; exact if_neg q⟩
/-- the reference's best life: after n = 2 .. j + 1 -/
def mBs (f : Nat → Int32) (ch fa : Int32) (c : Nat) : Nat → Nat
  | 0 => 1
  | j + 1 => if eCost f ch fa (nI (mBs f ch fa c j)) c * eUses f (nI (j + 2)) c < eCost f ch fa (nI (j + 2)) c * eUses f (nI (mBs f ch fa c j)) c then mBs f ch fa c j else j + 2
theorem mBs_pos {f : Nat → Int32} {ch fa : Int32} {c j : Nat} (h : eCost f ch fa (nI (mBs f ch fa c j)) c * eUses f (nI (j + 2)) c < eCost f ch fa (nI (j + 2)) c * eUses f (nI (mBs f ch fa c j)) c) : mBs f ch fa c (j + 1) = mBs f ch fa c j := if_pos h
theorem mBs_neg {f : Nat → Int32} {ch fa : Int32} {c j : Nat} (h : ¬ eCost f ch fa (nI (mBs f ch fa c j)) c * eUses f (nI (j + 2)) c < eCost f ch fa (nI (j + 2)) c * eUses f (nI (mBs f ch fa c j)) c) : mBs f ch fa c (j + 1) = j + 2 := if_neg h
