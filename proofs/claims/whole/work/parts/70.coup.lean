/-! what holds between both sides -/
def kA (I : Nat → Nat → Int32) (S : Nat → Int32) (sd : Int64) : Prop := sd = (I 0 0).toInt64 ∧ S 17 = I 0 1 ∧ S 18 = I 0 2 ∧ S 19 = I 0 3 ∧ S 20 = I 0 4 ∧ ∃ k, 2 ≤ k ∧ k ≤ 12 ∧ I 0 2 = nI k
def kB (I : Nat → Nat → Int32) (J B : Nat → Nat → Int64) : Prop := (∀ k, k < 16 → B 11 k = (I 1 k).toInt64) ∧ ∀ k, k < 4 → B 12 k = J 0 k
def kS1 (I : Nat → Nat → Int32) (F : Nat → Nat → Nat → Int32) (A : Nat → Nat → Int32) (B : Nat → Nat → Int64) (i : Nat) : Prop :=
  A 14 i = I 2 i ∧ (∃ c, c ≤ 40 ∧ I 2 i = nI c ∧ ∀ k, k < c → ∃ v, 1 ≤ v ∧ v ≤ 1000 ∧ F 0 i k = nI v) ∧ (B 15 i = (I 3 i).toInt64 ∧ B 16 i = (I 4 i).toInt64) ∧ ((∃ v, v ≤ 1000000 ∧ I 3 i = nI v) ∧ ∃ v, v ≤ 1000000 ∧ I 4 i = nI v) ∧ ∀ k, k < 40 → A 13 (40 * i + k) = F 0 i k
def kT1 (n : Nat) (I : Nat → Nat → Int32) (J : Nat → Nat → Int64) (F : Nat → Nat → Nat → Int32) (si : Nat → Nat) (A : Nat → Nat → Int32) (B : Nat → Nat → Int64) (i : Nat) : Prop :=
  (si i < 4 ∧ A 3 i = nI (si i)) ∧ (A 4 i = I 5 i ∧ A 5 i = I 6 i ∧ B 6 i = J 1 i ∧ A 7 i = I 7 i ∧ A 8 i = I 8 i) ∧ ((∃ u, u ≤ n ∧ A 9 i = nI u ∧ J 2 i = lN u) ∧ ∃ u, u ≤ n ∧ A 10 i = nI u ∧ J 3 i = lN u) ∧ (A 22 i = I 9 i ∧ A 23 i = I 10 i ∧ ∃ c, c ≤ 24 ∧ I 9 i = nI c) ∧ ((I 8 i = 0 ∨ I 8 i = 1) ∧ (∃ v, v ≤ 1000000 ∧ I 5 i = nI v) ∧ ∃ v, v ≤ 1000000 ∧ I 6 i = nI v) ∧ ∀ k, k < 24 → A 21 (24 * i + k) = F 1 i k ∧ ∃ v, v ≤ 1000000 ∧ F 1 i k = nI v
def kN1 (A : Nat → Nat → Int32) (B : Nat → Nat → Int64) (i : Nat) : Prop := B 6 i = 0 ∧ A 7 i = 0 ∧ A 8 i = 0 ∧ A 9 i = 0 ∧ A 10 i = 0 ∧ A 22 i = 0 ∧ A 23 i = -1 ∧ ∀ k, k < 24 → A 21 (24 * i + k) = 0
def ol (I : Nat → Nat → Int32) (oc : Nat) : List (Int32 × Int32) := ((List.range oc).filter (fun j => decide (I 13 j = 0))).map (fun j => (I 11 j, I 12 j))
def ml (A : Nat → Nat → Int32) (to : Nat → Nat) (on : Nat) : List (Int32 × Int32) := (List.range on).map (fun o => (A 3 (to o), A 25 o))
def kO (I : Nat → Nat → Int32) (tc oc : Nat) (A : Nat → Nat → Int32) (S : Nat → Int32) (on : Nat) (to : Nat → Nat) : Prop :=
  oc ≤ 16 ∧ S 26 = nI on ∧ S 27 = nI oc ∧ on ≤ oc ∧ (∀ o, o < on → to o < tc ∧ A 24 o = nI (to o)) ∧ ol I oc = ml A to on
def Kp (n : Nat) (x : eS) (y : mSt) (sd : Int64) : Prop := match x, y with
  | (I, J, F, si, tc, oc), (A, B, S) => kA I S sd ∧ kB I J B ∧ (∀ i, i < 4 → kS1 I F A B i) ∧ (S 2 = nI tc ∧ tc ≤ 12 ∧ ∀ i, i < tc → kT1 n I J F si A B i) ∧ (∀ i, tc ≤ i → i < 12 → kN1 A B i) ∧ ∃ (on : Nat) (to : Nat → Nat), kO I tc oc A S on to
section KP
variable {n : Nat} {I I1 : Nat → Nat → Int32} {J J1 : Nat → Nat → Int64} {F F1 : Nat → Nat → Nat → Int32} {si si1 : Nat → Nat} {tc oc : Nat} {A A1 : Nat → Nat → Int32} {B B1 : Nat → Nat → Int64} {S : Nat → Int32} {sd : Int64}
theorem kT1.mono {i : Nat} (h : kT1 n I J F si A B i) : kT1 (n + 1) I J F si A B i := by
  obtain ⟨h1, h2, ⟨⟨u, h3, h4⟩, ⟨w, h5, h6⟩⟩, h7⟩ := h
  exact ⟨h1, h2, ⟨⟨u, by omega, h4⟩, ⟨w, by omega, h6⟩⟩, h7⟩
theorem kT1.congr {i : Nat} (h : kT1 n I J F si A B i) (hI : ∀ b, I1 b i = I b i) (hJ : ∀ b, J1 b i = J b i) (hF : F1 1 i = F 1 i) (hs : si1 i = si i) (hA : ∀ b, b ≠ 21 → A1 b i = A b i) (h21 : ∀ k, k < 24 → A1 21 (24 * i + k) = A 21 (24 * i + k)) (hB : B1 6 i = B 6 i) : kT1 n I1 J1 F1 si1 A1 B1 i := by
  obtain ⟨h1, h2, h3, h4, h5, h6⟩ := h
  unfold kT1
  simp only [hI, hJ, hF, hs, hB, hA 3 (by decide), hA 4 (by decide), hA 5 (by decide), hA 7 (by decide), hA 8 (by decide), hA 9 (by decide), hA 10 (by decide), hA 22 (by decide), hA 23 (by decide)]
  refine ⟨h1, h2, h3, h4, h5, fun k hk => ?_⟩
  rw [h21 k hk]
  exact h6 k hk
theorem kN1.congr {i : Nat} (h : kN1 A B i) (hA : ∀ b, b ≠ 21 → A1 b i = A b i) (h21 : ∀ k, k < 24 → A1 21 (24 * i + k) = A 21 (24 * i + k)) (hB : B1 6 i = B 6 i) : kN1 A1 B1 i := by
  obtain ⟨h1, h2, h3, h4, h5, h6, h7, h8⟩ := h
  refine ⟨by rw [hB]; exact h1, by rw [hA 7 (by decide)]; exact h2, by rw [hA 8 (by decide)]; exact h3, by rw [hA 9 (by decide)]; exact h4, by rw [hA 10 (by decide)]; exact h5, by rw [hA 22 (by decide)]; exact h6, by rw [hA 23 (by decide)]; exact h7, fun k hk => ?_⟩
  rw [h21 k hk]
  exact h8 k hk
theorem kS1.congr {i : Nat} (h : kS1 I F A B i) (hI : ∀ b, I1 b i = I b i) (hF : F1 0 i = F 0 i) (hA : A1 14 i = A 14 i) (h13 : ∀ k, k < 40 → A1 13 (40 * i + k) = A 13 (40 * i + k)) (hB : ∀ b, B1 b i = B b i) : kS1 I1 F1 A1 B1 i := by
  obtain ⟨h1, h2, h3, h4, h5⟩ := h
  unfold kS1
  simp only [hI, hF, hA, hB]
  refine ⟨h1, h2, h3, h4, fun k hk => ?_⟩
  rw [h13 k hk]
  exact h5 k hk
theorem Kp.thr {v : Int32} (h : Kp n (I, J, F, si, tc, oc) (A, B, S) sd) : Kp (n + 1) (I, J, F, si, tc, oc) (A, B, va_up S 0 v) sd := by
  obtain ⟨h1, h2, h3, ⟨h4, h5, h6⟩, h7, h8⟩ := h
  exact ⟨h1, h2, h3, ⟨h4, h5, fun i hi => (h6 i hi).mono⟩, h7, h8⟩
theorem Kp.ht (h : Kp n (I, J, F, si, tc, oc) (A, B, S) sd) : tc ≤ 12 := h.2.2.2.1.2.1
theorem Kp.hS (h : Kp n (I, J, F, si, tc, oc) (A, B, S) sd) : S 2 = nI tc := h.2.2.2.1.1
theorem Kp.ho (h : Kp n (I, J, F, si, tc, oc) (A, B, S) sd) : oc ≤ 16 := by
  obtain ⟨-, -, -, -, -, on, to, h, -⟩ := h
  exact h
theorem Kp.hs (h : Kp n (I, J, F, si, tc, oc) (A, B, S) sd) : ∀ i, i < tc → si i < 4 := fun i hi => (h.2.2.2.1.2.2 i hi).1.1
theorem Kp.hs2 (h : Kp n (I, J, F, si, tc, oc) (A, B, S) sd) : ∀ i, i < tc → si i < 4 ∧ A 3 i = nI (si i) := fun i hi => (h.2.2.2.1.2.2 i hi).1
theorem Kp.hL (h : Kp n (I, J, F, si, tc, oc) (A, B, S) sd) : ∀ i, i < 4 → ∃ c, c ≤ 40 ∧ I 2 i = nI c := fun i hi => by
  obtain ⟨c, h1, h2, -⟩ := (h.2.2.1 i hi).2.1
  exact ⟨c, h1, h2⟩
theorem Kp.hLM (h : Kp n (I, J, F, si, tc, oc) (A, B, S) sd) : ∀ i, i < 4 → ∃ c, c ≤ 40 ∧ A 14 i = nI c := fun i hi => by
  obtain ⟨c, h1, h2, -⟩ := (h.2.2.1 i hi).2.1
  exact ⟨c, h1, (h.2.2.1 i hi).1.trans h2⟩
theorem Kp.hV (h : Kp n (I, J, F, si, tc, oc) (A, B, S) sd) : ∀ i, i < 4 → ∀ c, c ≤ 40 → A 14 i = nI c → ∀ k, k < c → ∃ v, v ≤ 1000 ∧ A 13 (40 * i + k) = nI v := fun i hi c hc ec k hk => by
  have hq := h.2.2.1 i hi
  obtain ⟨c2, h1, h2, h3⟩ := hq.2.1
  have e1 : c = c2 := (nI_eq (by omega) (by omega)).mp (ec.symm.trans (hq.1.trans h2))
  subst e1
  obtain ⟨v, -, h5, h6⟩ := h3 k hk
  exact ⟨v, h5, (hq.2.2.2.2 k (by omega)).trans h6⟩
theorem Kp.hcf (h : Kp n (I, J, F, si, tc, oc) (A, B, S) sd) : ∀ i, i < 4 → B 15 i = (I 3 i).toInt64 ∧ B 16 i = (I 4 i).toInt64 := fun i hi => (h.2.2.1 i hi).2.2.1
theorem Kp.hR (h : Kp n (I, J, F, si, tc, oc) (A, B, S) sd) : ∃ k, 2 ≤ k ∧ k ≤ 12 ∧ I 0 2 = nI k := h.1.2.2.2.2.2
theorem Kp.hz (h : Kp n (I, J, F, si, tc, oc) (A, B, S) sd) : ∀ i, i < tc → I 8 i = 0 ∨ I 8 i = 1 := fun i hi => (h.2.2.2.1.2.2 i hi).2.2.2.2.1.1
theorem Kp.hzM (h : Kp n (I, J, F, si, tc, oc) (A, B, S) sd) : ∀ i, i < 12 → A 8 i = 0 ∨ A 8 i = 1 := fun i hi => by
  by_cases q : i < tc
  · have h1 := h.2.2.2.1.2.2 i q
    rw [h1.2.1.2.2.2.2]
    exact h1.2.2.2.2.1.1
  · exact Or.inl (h.2.2.2.2.1 i (by omega) hi).2.2.1
theorem Kp.hH (h : Kp n (I, J, F, si, tc, oc) (A, B, S) sd) : ∀ i, i < 12 → ∃ c, c ≤ 24 ∧ A 22 i = nI c := fun i hi => by
  by_cases q : i < tc
  · have h1 := (h.2.2.2.1.2.2 i q).2.2.2.1
    obtain ⟨c, h2, h3⟩ := h1.2.2
    exact ⟨c, h2, h1.1.trans h3⟩
  · exact ⟨0, by omega, (h.2.2.2.2.1 i (by omega) hi).2.2.2.2.2.1⟩
theorem Kp.hrd (h : Kp n (I, J, F, si, tc, oc) (A, B, S) sd) : ∀ i, i < 12 → ∀ k, k < 24 → ∃ v, v ≤ 1000000 ∧ A 21 (24 * i + k) = nI v := fun i hi k hk => by
  by_cases q : i < tc
  · obtain ⟨h1, v, h2, h3⟩ := (h.2.2.2.1.2.2 i q).2.2.2.2.2 k hk
    exact ⟨v, h2, h1.trans h3⟩
  · exact ⟨0, by omega, (h.2.2.2.2.1 i (by omega) hi).2.2.2.2.2.2.2 k hk⟩
theorem bv_uni {r b : Int32} {P Q : Prop} (h1 : bv r P) (h2 : bv b Q) (e : P ↔ Q) : r = b := by
  rcases h1 with h1 | h1
  · rcases h2 with h2 | h2
    · rw [h1.1, h2.1]
    · exact absurd (e.mp h1.2) h2.2
  · rcases h2 with h2 | h2
    · exact absurd (e.mpr h2.2) h1.2
    · rw [h1.1, h2.1]
theorem nI_in2 {a b m : Nat} (h : nI a = nI b) (ha : a < m) (hb : b < m) (hm : m < 2 ^ 31) : a = b := (nI_eq (by omega) (by omega)).mp h
end KP
