section BST
variable {f : Nat → Int32} {g : Nat → Nat} {ch fa : Int32} {C F c : Nat}
theorem bc_le : ∀ {c n : Nat}, C ≤ 1000000 → F ≤ 1000000 → bc g C F c n ≤ 1000000 * c := by
  intro c
  induction c with
  | zero => intro n _ _; exact Nat.le_refl _
  | succ c ih =>
    intro n h1 h2
    have := ih (n := n) h1 h2
    unfold bc
    split <;> omega
theorem bu_le2 : ∀ {c n : Nat}, (∀ k, k < c → g k ≤ 1000) → bu g c n ≤ 1000 * c := by
  intro c
  induction c with
  | zero => intro n _; exact Nat.le_refl _
  | succ c ih =>
    intro n h
    have h1 := ih (n := n) (fun k hk => h k (by omega))
    have h2 := h c (by omega)
    unfold bu
    split <;> omega
theorem eCost_n (hC : C ≤ 1000000) (hF : F ≤ 1000000) (hch : ch = nI C) (hfa : fa = nI F) {n : Nat} (hn : n ≤ 1000) : ∀ {c : Nat}, (∀ k, k < c → g k ≤ 1000 ∧ f k = nI (g k)) → eCost f ch fa (nI n) c = lN (bc g C F c n) := by
  intro c
  induction c with
  | zero => intro _; rfl
  | succ c ih =>
    intro h
    obtain ⟨h1, h2⟩ := h c (by omega)
    show eCost f ch fa (nI n) c + (if f c < nI n then fa.toInt64 else ch.toInt64) = lN (bc g C F c n + (if g c < n then F else C))
    rw [ih (fun k hk => h k (by omega)), h2, hch, hfa, nI_l (by omega), nI_l (by omega)]
    by_cases q : g c < n
    · rw [if_pos q, if_pos (nI_lt q (by omega)), lN_add]
    · rw [if_neg q, if_neg (fun z => q ((nI_ltI (by omega) (by omega)).mp z)), lN_add]
theorem eUses_n {n : Nat} (hn : n ≤ 1000) : ∀ {c : Nat}, (∀ k, k < c → g k ≤ 1000 ∧ f k = nI (g k)) → eUses f (nI n) c = lN (bu g c n) := by
  intro c
  induction c with
  | zero => intro _; rfl
  | succ c ih =>
    intro h
    obtain ⟨h1, h2⟩ := h c (by omega)
    show eUses f (nI n) c + (if nI n < f c then nI n else f c).toInt64 = lN (bu g c n + (if g c ≤ n then g c else n))
    rw [ih (fun k hk => h k (by omega)), h2]
    by_cases q : g c ≤ n
    · rw [if_pos q, if_neg (fun z => absurd ((nI_ltI (by omega) (by omega)).mp z) (by omega)), nI_l (by omega), lN_add]
    · rw [if_neg q, if_pos (nI_lt (by omega) (by omega)), nI_l (by omega), lN_add]
theorem lt_n (hc : c ≤ 40) (hC : C ≤ 1000000) (hF : F ≤ 1000000) (hch : ch = nI C) (hfa : fa = nI F) (hg : ∀ k, k < c → g k ≤ 1000 ∧ f k = nI (g k)) {n k : Nat} (hn : n ≤ 1000) (hk : k ≤ 1000) : (eCost f ch fa (nI n) c * eUses f (nI k) c < eCost f ch fa (nI k) c * eUses f (nI n) c ↔ bc g C F c n * bu g c k < bc g C F c k * bu g c n) ∧ (eCost f ch fa (nI n) c * eUses f (nI k) c = eCost f ch fa (nI k) c * eUses f (nI n) c ↔ bc g C F c n * bu g c k = bc g C F c k * bu g c n) := by
  have hu : ∀ n, bu g c n ≤ 40000 := fun n => Nat.le_trans (bu_le2 (fun k hk => (hg k hk).1)) (by omega)
  have hc2 : ∀ n, bc g C F c n ≤ 40000000 := fun n => Nat.le_trans (bc_le hC hF) (by omega)
  have b1 := Nat.mul_le_mul (hc2 n) (hu k)
  have b2 := Nat.mul_le_mul (hc2 k) (hu n)
  rw [eCost_n hC hF hch hfa hn hg, eCost_n hC hF hch hfa hk hg, eUses_n hn hg, eUses_n hk hg, lN_mul, lN_mul]
  exact ⟨pk_lLT (by omega) (by omega), pk_lEQ (by omega) (by omega)⟩
theorem better_n (hc : c ≤ 40) (hC : C ≤ 1000000) (hF : F ≤ 1000000) (hch : ch = nI C) (hfa : fa = nI F) (hg : ∀ k, k < c → g k ≤ 1000 ∧ f k = nI (g k)) {n k : Nat} (hn : n ≤ 1000) (hk : k ≤ 1000) : eBetter f ch fa c (nI n) (nI k) ↔ bb g C F c n k := by
  obtain ⟨h1, h2⟩ := lt_n hc hC hF hch hfa hg hn hk
  unfold eBetter bb
  rw [h1, h2, nI_ltI (by omega) (by omega)]
theorem eBest_n (hc : c ≤ 40) (hC : C ≤ 1000000) (hF : F ≤ 1000000) (hch : ch = nI C) (hfa : fa = nI F) (hg : ∀ k, k < c → g k ≤ 1000 ∧ f k = nI (g k)) (hp : ∀ k, k < c → 0 < g k) : ∀ j, j < c → ∃ i, i ≤ j ∧ eBest f ch fa c j = nI (g i) ∧ ∀ k, k ≤ j → g k = g i ∨ bb g C F c (g i) (g k) := by
  intro j
  induction j with
  | zero =>
    intro h
    exact ⟨0, Nat.le_refl _, (hg 0 h).2, fun k hk => Or.inl (by rw [show k = 0 by omega])⟩
  | succ j ih =>
    intro h
    obtain ⟨i, hi, ei, hall⟩ := ih (by omega)
    have up : ∀ k, k < c → 0 < bu g c (g k) := fun k hk => bu_pos (by omega) (hp k hk) hp
    have e1 := (hg (j + 1) h).2
    by_cases q : bb g C F c (g (j + 1)) (g i)
    · refine ⟨j + 1, Nat.le_refl _, ?_, fun k hk => ?_⟩
      · rw [eBest_pos (by rw [ei, e1]; exact (better_n hc hC hF hch hfa hg (hg _ h).1 (hg i (by omega)).1).mpr q), e1]
      · by_cases z : k = j + 1
        · exact Or.inl (by rw [z])
        · rcases hall k (by omega) with w | w
          · exact Or.inr (by rw [w]; exact q)
          · exact Or.inr (bb_trans (up _ h) (up _ (by omega)) (up _ (by omega)) q w)
    · refine ⟨i, by omega, ?_, fun k hk => ?_⟩
      · rw [eBest_neg (by rw [ei, e1]; exact fun z => q ((better_n hc hC hF hch hfa hg (hg _ h).1 (hg i (by omega)).1).mp z)), ei]
      · by_cases z : k = j + 1
        · rw [z]
          by_cases w : g (j + 1) = g i
          · exact Or.inl w
          · exact Or.inr ((bb_total w).resolve_left q)
        · exact hall k (by omega)
theorem mBs_n (hc : c ≤ 40) (hc0 : 0 < c) (hC : C ≤ 1000000) (hF : F ≤ 1000000) (hch : ch = nI C) (hfa : fa = nI F) (hg : ∀ k, k < c → g k ≤ 1000 ∧ f k = nI (g k)) (hp : ∀ k, k < c → 0 < g k) : ∀ j, j + 1 ≤ 1000 → 1 ≤ mBs f ch fa c j ∧ mBs f ch fa c j ≤ j + 1 ∧ ∀ n, 1 ≤ n → n ≤ j + 1 → n = mBs f ch fa c j ∨ bb g C F c (mBs f ch fa c j) n := by
  intro j
  induction j with
  | zero => intro _; exact ⟨Nat.le_refl _, Nat.le_refl _, fun n h1 h2 => Or.inl (by show n = 1; omega)⟩
  | succ j ih =>
    intro h
    obtain ⟨h1, h2, h3⟩ := ih (by omega)
    have up : ∀ k, 1 ≤ k → 0 < bu g c k := fun k hk => bu_pos hc0 hk hp
    obtain ⟨l1, l2⟩ := lt_n hc hC hF hch hfa hg (n := mBs f ch fa c j) (k := j + 2) (by omega) (by omega)
    by_cases q : bc g C F c (mBs f ch fa c j) * bu g c (j + 2) < bc g C F c (j + 2) * bu g c (mBs f ch fa c j)
    · rw [mBs_pos (l1.mpr q)]
      refine ⟨h1, by omega, fun n hn1 hn2 => ?_⟩
      by_cases z : n = j + 2
      · exact Or.inr (by rw [z]; exact Or.inl q)
      · exact h3 n hn1 (by omega)
    · rw [mBs_neg (fun z => q (l1.mp z))]
      have hb : bb g C F c (j + 2) (mBs f ch fa c j) := by
        unfold bb
        omega
      refine ⟨by omega, by omega, fun n hn1 hn2 => ?_⟩
      by_cases z : n = j + 2
      · exact Or.inl z
      · rcases h3 n hn1 (by omega) with w | w
        · exact Or.inr (by rw [w]; exact hb)
        · exact Or.inr (bb_trans (up _ (by omega)) (up _ h1) (up _ hn1) hb w)
theorem eMax_n : ∀ {c : Nat}, (∀ k, k < c → g k ≤ 1000 ∧ f k = nI (g k)) → ∀ {m : Nat}, m ≤ 1000 → eMax f c = nI m → (∀ k, k < c → g k ≤ m) ∧ (m = 0 ∨ ∃ k, k < c ∧ g k = m) := by
  intro c
  induction c with
  | zero =>
    intro _ m hm e
    exact ⟨fun k hk => absurd hk (Nat.not_lt_zero k), Or.inl ((nI_eq (by omega) (by omega)).mp e.symm)⟩
  | succ c ih =>
    intro h m hm e
    obtain ⟨m2, hm2, em2⟩ := eMax_nI (f := f) (b := 1000) (by decide) (c := c) (fun k hk => ⟨g k, (h k (by omega)).1, (h k (by omega)).2⟩)
    obtain ⟨a1, a2⟩ := ih (fun k hk => h k (by omega)) hm2 em2
    obtain ⟨b1, b2⟩ := h c (by omega)
    have e2 : (if eMax f c < f c then f c else eMax f c) = nI m := e
    rw [em2, b2] at e2
    by_cases q : m2 < g c
    · rw [if_pos (nI_lt q (by omega))] at e2
      have e3 := (nI_eq (by omega) (by omega)).mp e2
      subst e3
      refine ⟨fun k hk => ?_, Or.inr ⟨c, by omega, rfl⟩⟩
      by_cases z : k = c
      · rw [z]; exact Nat.le_refl _
      · have := a1 k (by omega); omega
    · rw [if_neg (fun z => q ((nI_ltI (by omega) (by omega)).mp z))] at e2
      have e3 := (nI_eq (by omega) (by omega)).mp e2
      subst e3
      refine ⟨fun k hk => ?_, ?_⟩
      · by_cases z : k = c
        · rw [z]; omega
        · exact a1 k (by omega)
      · rcases a2 with w | ⟨k, hk, ek⟩
        · exact Or.inl w
        · exact Or.inr ⟨k, by omega, ek⟩
theorem best_eq (hc : c ≤ 40) (hc0 : 0 < c) (hC : C ≤ 1000000) (hF : F ≤ 1000000) (hch : ch = nI C) (hfa : fa = nI F) (hg : ∀ k, k < c → g k ≤ 1000 ∧ f k = nI (g k)) (hp : ∀ k, k < c → 0 < g k) {m : Nat} (hm : m ≤ 1000) (em : eMax f c = nI m) : eBest f ch fa c (c - 1) = nI (mBs f ch fa c (m - 1)) := by
  obtain ⟨a1, a2⟩ := eMax_n hg hm em
  have hm1 : 1 ≤ m := by
    have h1 := a1 0 hc0
    have h2 := hp 0 hc0
    omega
  obtain ⟨k0, hk0, ek0⟩ : ∃ k, k < c ∧ g k = m := by
    rcases a2 with w | w
    · omega
    · exact w
  obtain ⟨i, hi, ei, hall⟩ := eBest_n hc hC hF hch hfa hg hp (c - 1) (by omega)
  obtain ⟨b1, b2, b3⟩ := mBs_n hc hc0 hC hF hch hfa hg hp (m - 1) (by omega)
  have q1 := best_all (C := C) (F := F) hc0 hp (b := g i) ⟨i, by omega, rfl⟩ (fun k hk => hall k (by omega)) (mBs f ch fa c (m - 1)) (by omega) ⟨k0, hk0, by omega⟩
  have q2 := b3 (g i) (hp i (by omega)) (by have := a1 i (by omega); omega)
  rw [ei, best_one q1 q2]
theorem eBest_congr {f f2 : Nat → Int32} {ch fa : Int32} {c : Nat} (h : ∀ k, k < c → f k = f2 k) : ∀ j, j < c → eBest f ch fa c j = eBest f2 ch fa c j := by
  intro j
  induction j with
  | zero => intro hj; exact h 0 hj
  | succ j ih =>
    intro hj
    have e := ih (by omega)
    have e1 := h (j + 1) hj
    have eb : ∀ a b, eBetter f ch fa c a b ↔ eBetter f2 ch fa c a b := fun a b => by
      unfold eBetter
      rw [eCost_congr h, eCost_congr h, eUses_congr h, eUses_congr h]
    by_cases q : eBetter f ch fa c (f (j + 1)) (eBest f ch fa c j)
    · rw [eBest_pos q, eBest_pos (by rw [← e, ← e1]; exact (eb _ _).mp q), e1]
    · rw [eBest_neg q, eBest_neg (by rw [← e, ← e1]; exact fun z => q ((eb _ _).mpr z)), e]
end BST
