abbrev eS : Type := (Nat → Nat → Int32) × (Nat → Nat → Int64) × (Nat → Nat → Nat → Int32) × (Nat → Nat) × Nat × Nat
abbrev mSt : Type := (Nat → Nat → Int32) × (Nat → Nat → Int64) × (Nat → Int32)
abbrev gEx (dA : Nat → ClassId) (ad : Nat → Nat) (x : eS) (G0 : mG) : mG := gE dA ad x.1 x.2.1 x.2.2.1 x.2.2.2.1 x.2.2.2.2.1 x.2.2.2.2.2 G0
abbrev gMx (dA : Nat → ClassId) (ad : Nat → Nat) (y : mSt) (sd : Int64) (G0 : mG) : mG := gM dA ad y.1 y.2.1 y.2.2 sd G0
theorem gE_up {dA : Nat → ClassId} {ad : Nat → Nat} {I : Nat → Nat → Int32} {J : Nat → Nat → Int64} {F : Nat → Nat → Nat → Int32} {si : Nat → Nat} {tc oc : Nat} {G0 : mG} (q : Nat) (hq : 1000 ≤ q) (e : Option va_E) : va_up (gE dA ad I J F si tc oc G0) q e = gE dA ad I J F si tc oc (va_up G0 q e) := by
  funext r
  by_cases h : r = q
  · rw [h, va_up_self, gE_out hq, va_up_self]
  · rw [va_up_ne _ _ h]
    by_cases h2 : 1000 ≤ r
    · rw [gE_out h2, gE_out h2, va_up_ne _ _ h]
    · unfold gE
      rw [if_pos (show r < 1000 by omega), if_pos (show r < 1000 by omega)]
theorem gEM {dA : Nat → ClassId} {ad : Nat → Nat} {I : Nat → Nat → Int32} {J : Nat → Nat → Int64} {F : Nat → Nat → Nat → Int32} {si : Nat → Nat} {tc oc : Nat} {A : Nat → Nat → Int32} {B : Nat → Nat → Int64} {S : Nat → Int32} {sd : Int64} {X : mG} : gE dA ad I J F si tc oc (gM dA ad A B S sd X) = gM dA ad A B S sd (gE dA ad I J F si tc oc X) := by
  funext r
  by_cases h : 1000 ≤ r
  · rw [gE_out h]
    unfold gM
    rw [gE_out h]
  · rw [gM_out (Or.inl (by omega))]
    unfold gE
    rw [if_pos (show r < 1000 by omega), if_pos (show r < 1000 by omega)]
theorem gM_ad {dA : Nat → ClassId} {ad ad1 : Nat → Nat} {A : Nat → Nat → Int32} {B : Nat → Nat → Int64} {S : Nat → Int32} {sd : Int64} {X : mG} (h : ∀ k, 1000 ≤ k → ad1 k = ad k) : gM dA ad A B S sd X = gM dA ad1 A B S sd X := by
  unfold gM
  rw [h 1003 (by decide), h 1004 (by decide), h 1005 (by decide), h 1006 (by decide), h 1007 (by decide), h 1008 (by decide), h 1009 (by decide), h 1010 (by decide), h 1011 (by decide), h 1012 (by decide), h 1013 (by decide), h 1014 (by decide), h 1015 (by decide), h 1016 (by decide), h 1021 (by decide), h 1022 (by decide), h 1023 (by decide), h 1024 (by decide), h 1025 (by decide)]
def R_E_tool (I : Nat → Nat → Int32) (J : Nat → Nat → Int64) (F : Nat → Nat → Nat → Int32) (si : Nat → Nat) (tc oc : Nat) (p0 p1 p2 : Int32) (rv : Int32) (x1 : eS) : Prop := ∃ i, (i < 4 ∧ (p0 = nI i ∧ (¬ (1000000 < p1 ∨ p2 < 0 ∨ p1 < p2) ∧ (tc < 12 ∧ (rv = nI tc ∧ (∃ q0 q1 q2 : Nat, x1 = ((up2 (up2 (up2 (up2 (up2 (up2 I 5 tc p1) 6 tc p2) 7 tc 0) 8 tc 0) 9 tc 0) 10 tc (-1)), (up2 (up2 (up2 J 1 tc 0) 2 tc 0) 3 tc 0), (up2 F 1 tc (fun _ => 0)), (va_up si tc i), (tc + 1), oc)))))))
set_option maxRecDepth 100000 in
theorem kE_tool {dA : Nat → ClassId} {ad : Nat → Nat} {G0 : mG} {I : Nat → Nat → Int32} {J : Nat → Nat → Int64} {F : Nat → Nat → Nat → Int32} {si : Nat → Nat} {tc oc : Nat} (ht : tc ≤ 12) (ho : oc ≤ 16)  {rv : Int32} {p0 p1 p2 : Int32} {u : mU} (h : ∃ i, i < 4 ∧ p0 = nI i ∧ ¬ (1000000 < p1 ∨ p2 < 0 ∨ p1 < p2) ∧ tc < 12 ∧ rv = nI tc ∧ ∃ q0 q1 q2 : Nat, u = ((va_up (va_up (va_up ad (100 + tc) q0) (200 + tc) q1) (300 + tc) q2), gE dA (va_up (va_up (va_up ad (100 + tc) q0) (200 + tc) q1) (300 + tc) q2) (up2 (up2 (up2 (up2 (up2 (up2 I 5 tc p1) 6 tc p2) 7 tc 0) 8 tc 0) 9 tc 0) 10 tc (-1)) (up2 (up2 (up2 J 1 tc 0) 2 tc 0) 3 tc 0) (up2 F 1 tc (fun _ => 0)) (va_up si tc i) (tc + 1) oc G0)) : ∃ x1 : eS, (∀ k, k = 0 ∨ 1000 ≤ k → u.1 k = ad k) ∧ u.2 = gEx dA u.1 x1 G0 ∧ R_E_tool I J F si tc oc p0 p1 p2 rv x1 := by
  obtain ⟨i, h⟩ := h
  obtain ⟨h1_, h⟩ := h
  obtain ⟨h2_, h⟩ := h
  obtain ⟨h3_, h⟩ := h
  obtain ⟨h4_, h⟩ := h
  obtain ⟨h5_, h⟩ := h
  obtain ⟨q0, q1, q2, h⟩ := h
  subst h
  exact ⟨((up2 (up2 (up2 (up2 (up2 (up2 I 5 tc p1) 6 tc p2) 7 tc 0) 8 tc 0) 9 tc 0) 10 tc (-1)), (up2 (up2 (up2 J 1 tc 0) 2 tc 0) 3 tc 0), (up2 F 1 tc (fun _ => 0)), (va_up si tc i), (tc + 1), oc), fun k hk => by
    show (va_up (va_up (va_up ad (100 + tc) q0) (200 + tc) q1) (300 + tc) q2) k = ad k
    rw [va_up_ne _ _ (by omega), va_up_ne _ _ (by omega), va_up_ne _ _ (by omega)], rfl, ⟨i, ⟨h1_, ⟨h2_, ⟨h3_, ⟨h4_, ⟨h5_, ⟨q0, q1, q2, rfl⟩⟩⟩⟩⟩⟩⟩⟩
def R_E_rate (I : Nat → Nat → Int32) (J : Nat → Nat → Int64) (F : Nat → Nat → Nat → Int32) (si : Nat → Nat) (tc oc : Nat) (p0 p1 p2 : Int32) (x1 : eS) : Prop := ∃ a b, (a < 4 ∧ (b < 4 ∧ (p0 = nI a ∧ (p1 = nI b ∧ (¬ (p2 < 0 ∨ 1000000 < p2) ∧ x1 = ((up2 I 1 (4 * a + b) p2), J, F, si, tc, oc))))))
set_option maxRecDepth 100000 in
theorem kE_rate {dA : Nat → ClassId} {ad : Nat → Nat} {G0 : mG} {I : Nat → Nat → Int32} {J : Nat → Nat → Int64} {F : Nat → Nat → Nat → Int32} {si : Nat → Nat} {tc oc : Nat} (ht : tc ≤ 12) (ho : oc ≤ 16)  {p0 p1 p2 : Int32} {u : mU} (h : ∃ a b, a < 4 ∧ b < 4 ∧ p0 = nI a ∧ p1 = nI b ∧ ¬ (p2 < 0 ∨ 1000000 < p2) ∧ u = (ad, gE dA ad (up2 I 1 (4 * a + b) p2) J F si tc oc G0)) : ∃ x1 : eS, (∀ k, k = 0 ∨ 1000 ≤ k → u.1 k = ad k) ∧ u.2 = gEx dA u.1 x1 G0 ∧ R_E_rate I J F si tc oc p0 p1 p2 x1 := by
  obtain ⟨a, b, h⟩ := h
  obtain ⟨h6_, h⟩ := h
  obtain ⟨h7_, h⟩ := h
  obtain ⟨h8_, h⟩ := h
  obtain ⟨h9_, h⟩ := h
  obtain ⟨h10_, h⟩ := h
  subst h
  exact ⟨((up2 I 1 (4 * a + b) p2), J, F, si, tc, oc), fun _ _ => rfl, rfl, ⟨a, b, ⟨h6_, ⟨h7_, ⟨h8_, ⟨h9_, ⟨h10_, rfl⟩⟩⟩⟩⟩⟩⟩
def R_E_limit (I : Nat → Nat → Int32) (J : Nat → Nat → Int64) (F : Nat → Nat → Nat → Int32) (si : Nat → Nat) (tc oc : Nat) (p0 : Int32) (p1 : Int64) (x1 : eS) : Prop := ∃ i, (i < 4 ∧ (p0 = nI i ∧ (¬ (p1 < 1 ∨ 1000000000000 < p1) ∧ x1 = (I, (up2 J 0 i p1), F, si, tc, oc))))
set_option maxRecDepth 100000 in
theorem kE_limit {dA : Nat → ClassId} {ad : Nat → Nat} {G0 : mG} {I : Nat → Nat → Int32} {J : Nat → Nat → Int64} {F : Nat → Nat → Nat → Int32} {si : Nat → Nat} {tc oc : Nat} (ht : tc ≤ 12) (ho : oc ≤ 16)  {p0 : Int32} {p1 : Int64} {u : mU} (h : ∃ i, i < 4 ∧ p0 = nI i ∧ ¬ (p1 < 1 ∨ 1000000000000 < p1) ∧ u = (ad, gE dA ad I (up2 J 0 i p1) F si tc oc G0)) : ∃ x1 : eS, (∀ k, k = 0 ∨ 1000 ≤ k → u.1 k = ad k) ∧ u.2 = gEx dA u.1 x1 G0 ∧ R_E_limit I J F si tc oc p0 p1 x1 := by
  obtain ⟨i, h⟩ := h
  obtain ⟨h11_, h⟩ := h
  obtain ⟨h12_, h⟩ := h
  obtain ⟨h13_, h⟩ := h
  subst h
  exact ⟨(I, (up2 J 0 i p1), F, si, tc, oc), fun _ _ => rfl, rfl, ⟨i, ⟨h11_, ⟨h12_, ⟨h13_, rfl⟩⟩⟩⟩⟩
def R_E_use (I : Nat → Nat → Int32) (J : Nat → Nat → Int64) (F : Nat → Nat → Nat → Int32) (si : Nat → Nat) (tc oc : Nat) (p0 p1 p2 p3 : Int32) (rv : Int32) (x1 : eS) : Prop := ∃ i a b, (i < tc ∧ (p0 = nI i ∧ (a < 4 ∧ (p2 = nI a ∧ (b < 4 ∧ (p3 = nI b ∧ (¬ (p1 < 0 ∨ 1000000 < p1) ∧ (I 7 i = 0 ∧ (bv rv (¬ J 0 (si i) < eWear (J 1 i) (p1.toInt64 * (I 1 (4 * a + b)).toInt64)) ∧ x1 = (I, (up2 (up2 J 1 i (eWear (J 1 i) (p1.toInt64 * (I 1 (4 * a + b)).toInt64))) 2 i (J 2 i + 1)), F, si, tc, oc))))))))))
set_option maxRecDepth 100000 in
theorem kE_use {dA : Nat → ClassId} {ad : Nat → Nat} {G0 : mG} {I : Nat → Nat → Int32} {J : Nat → Nat → Int64} {F : Nat → Nat → Nat → Int32} {si : Nat → Nat} {tc oc : Nat} (ht : tc ≤ 12) (ho : oc ≤ 16)  {rv : Int32} {p0 p1 p2 p3 : Int32} {u : mU} (h : ∃ i a b, i < tc ∧ p0 = nI i ∧ a < 4 ∧ p2 = nI a ∧ b < 4 ∧ p3 = nI b ∧ ¬ (p1 < 0 ∨ 1000000 < p1) ∧ I 7 i = 0 ∧ bv rv (¬ J 0 (si i) < eWear (J 1 i) (p1.toInt64 * (I 1 (4 * a + b)).toInt64)) ∧ u = (ad, gE dA ad I (up2 (up2 J 1 i (eWear (J 1 i) (p1.toInt64 * (I 1 (4 * a + b)).toInt64))) 2 i (J 2 i + 1)) F si tc oc G0)) : ∃ x1 : eS, (∀ k, k = 0 ∨ 1000 ≤ k → u.1 k = ad k) ∧ u.2 = gEx dA u.1 x1 G0 ∧ R_E_use I J F si tc oc p0 p1 p2 p3 rv x1 := by
  obtain ⟨i, a, b, h⟩ := h
  obtain ⟨h14_, h⟩ := h
  obtain ⟨h15_, h⟩ := h
  obtain ⟨h16_, h⟩ := h
  obtain ⟨h17_, h⟩ := h
  obtain ⟨h18_, h⟩ := h
  obtain ⟨h19_, h⟩ := h
  obtain ⟨h20_, h⟩ := h
  obtain ⟨h21_, h⟩ := h
  obtain ⟨h22_, h⟩ := h
  subst h
  exact ⟨(I, (up2 (up2 J 1 i (eWear (J 1 i) (p1.toInt64 * (I 1 (4 * a + b)).toInt64))) 2 i (J 2 i + 1)), F, si, tc, oc), fun _ _ => rfl, rfl, ⟨i, a, b, ⟨h14_, ⟨h15_, ⟨h16_, ⟨h17_, ⟨h18_, ⟨h19_, ⟨h20_, ⟨h21_, ⟨h22_, rfl⟩⟩⟩⟩⟩⟩⟩⟩⟩⟩⟩
def R_E_grind (I : Nat → Nat → Int32) (J : Nat → Nat → Int64) (F : Nat → Nat → Nat → Int32) (si : Nat → Nat) (tc oc : Nat) (p0 p1 : Int32) (rv : Int32) (x1 : eS) : Prop := ∃ i, (i < tc ∧ (p0 = nI i ∧ (¬ (p1 < 1 ∨ 1000000 < p1) ∧ (I 7 i = 0 ∧ (if I 5 i - p1 < I 6 i then (rv = 0 ∧ x1 = ((up2 I 7 i 1), J, F, si, tc, oc)) else (rv = 1 ∧ x1 = ((up2 I 5 i (I 5 i - p1)), (up2 (up2 J 1 i 0) 3 i (J 3 i + 1)), F, si, tc, oc)))))))
set_option maxRecDepth 100000 in
theorem kE_grind {dA : Nat → ClassId} {ad : Nat → Nat} {G0 : mG} {I : Nat → Nat → Int32} {J : Nat → Nat → Int64} {F : Nat → Nat → Nat → Int32} {si : Nat → Nat} {tc oc : Nat} (ht : tc ≤ 12) (ho : oc ≤ 16)  {rv : Int32} {p0 p1 : Int32} {u : mU} (h : ∃ i, i < tc ∧ p0 = nI i ∧ ¬ (p1 < 1 ∨ 1000000 < p1) ∧ I 7 i = 0 ∧ (if I 5 i - p1 < I 6 i then rv = 0 ∧ u = (ad, gE dA ad (up2 I 7 i 1) J F si tc oc G0) else rv = 1 ∧ u = (ad, gE dA ad (up2 I 5 i (I 5 i - p1)) (up2 (up2 J 1 i 0) 3 i (J 3 i + 1)) F si tc oc G0))) : ∃ x1 : eS, (∀ k, k = 0 ∨ 1000 ≤ k → u.1 k = ad k) ∧ u.2 = gEx dA u.1 x1 G0 ∧ R_E_grind I J F si tc oc p0 p1 rv x1 := by
  obtain ⟨i, h⟩ := h
  obtain ⟨h23_, h⟩ := h
  obtain ⟨h24_, h⟩ := h
  obtain ⟨h25_, h⟩ := h
  obtain ⟨h26_, h⟩ := h
  by_cases hc27 : I 5 i - p1 < I 6 i
  · rw [if_pos hc27] at h
    obtain ⟨h28_, h⟩ := h
    subst h
    exact ⟨((up2 I 7 i 1), J, F, si, tc, oc), fun _ _ => rfl, rfl, ⟨i, ⟨h23_, ⟨h24_, ⟨h25_, ⟨h26_, (by rw [if_pos hc27]; exact ⟨h28_, rfl⟩)⟩⟩⟩⟩⟩⟩
  · rw [if_neg hc27] at h
    obtain ⟨h29_, h⟩ := h
    subst h
    exact ⟨((up2 I 5 i (I 5 i - p1)), (up2 (up2 J 1 i 0) 3 i (J 3 i + 1)), F, si, tc, oc), fun _ _ => rfl, rfl, ⟨i, ⟨h23_, ⟨h24_, ⟨h25_, ⟨h26_, (by rw [if_neg hc27]; exact ⟨h29_, rfl⟩)⟩⟩⟩⟩⟩⟩
def R_E_about (I : Nat → Nat → Int32) (J : Nat → Nat → Int64) (F : Nat → Nat → Nat → Int32) (si : Nat → Nat) (tc oc : Nat) (p0 p1 : Int32) (rv : Int64) (x1 : eS) : Prop := (∃ i, i < tc ∧ p0 = nI i ∧ ((p1 = 0 ∧ rv = J 1 i) ∨ (p1 = 1 ∧ rv = (I 5 i).toInt64) ∨ (p1 = 2 ∧ rv = (nI (si i)).toInt64) ∨ (p1 = 3 ∧ rv = ((if I 7 i = 0 then 0 else 1) + (if J 0 (si i) < J 1 i then 2 else 0) + (if I 8 i = 0 then 0 else 4) : Int32).toInt64) ∨ (p1 = 4 ∧ rv = J 2 i) ∨ (p1 = 5 ∧ rv = J 3 i))) ∧ x1 = (I, J, F, si, tc, oc)
def R_E_spare (I : Nat → Nat → Int32) (J : Nat → Nat → Int64) (F : Nat → Nat → Nat → Int32) (si : Nat → Nat) (tc oc : Nat) (p0 : Int32) (rv : Int32) (x1 : eS) : Prop := (∃ i, i < 4 ∧ p0 = nI i ∧ rv = nI (eCnt (eSp I J si tc (nI i)) 12)) ∧ x1 = (I, J, F, si, tc, oc)
def R_E_take (I : Nat → Nat → Int32) (J : Nat → Nat → Int64) (F : Nat → Nat → Nat → Int32) (si : Nat → Nat) (tc oc : Nat) (p0 : Int32) (rv : Int32) (x1 : eS) : Prop := ∃ i, (i < 4 ∧ (p0 = nI i ∧ (rv = (eNx (eSp I J si tc (nI i)) (I 5) 12).1 ∧ ((rv = -1 ∧ x1 = (I, J, F, si, tc, oc)) ∨ (∃ t, (t < tc ∧ (rv = nI t ∧ x1 = ((up2 I 8 t 1), J, F, si, tc, oc))))))))
set_option maxRecDepth 100000 in
theorem kE_take {dA : Nat → ClassId} {ad : Nat → Nat} {G0 : mG} {I : Nat → Nat → Int32} {J : Nat → Nat → Int64} {F : Nat → Nat → Nat → Int32} {si : Nat → Nat} {tc oc : Nat} (ht : tc ≤ 12) (ho : oc ≤ 16)  {rv : Int32} {p0 : Int32} {u : mU} (h : ∃ i, i < 4 ∧ p0 = nI i ∧ rv = (eNx (eSp I J si tc (nI i)) (I 5) 12).1 ∧ ((rv = -1 ∧ u = (ad, gE dA ad I J F si tc oc G0)) ∨ ∃ t, t < tc ∧ rv = nI t ∧ u = (ad, gE dA ad (up2 I 8 t 1) J F si tc oc G0))) : ∃ x1 : eS, (∀ k, k = 0 ∨ 1000 ≤ k → u.1 k = ad k) ∧ u.2 = gEx dA u.1 x1 G0 ∧ R_E_take I J F si tc oc p0 rv x1 := by
  obtain ⟨i, h⟩ := h
  obtain ⟨h30_, h⟩ := h
  obtain ⟨h31_, h⟩ := h
  obtain ⟨h32_, h⟩ := h
  rcases h with h | h
  · obtain ⟨h33_, h⟩ := h
    subst h
    exact ⟨(I, J, F, si, tc, oc), fun _ _ => rfl, rfl, ⟨i, ⟨h30_, ⟨h31_, ⟨h32_, (Or.inl ⟨h33_, rfl⟩)⟩⟩⟩⟩⟩
  · obtain ⟨t, h⟩ := h
    obtain ⟨h34_, h⟩ := h
    obtain ⟨h35_, h⟩ := h
    subst h
    exact ⟨((up2 I 8 t 1), J, F, si, tc, oc), fun _ _ => rfl, rfl, ⟨i, ⟨h30_, ⟨h31_, ⟨h32_, (Or.inr ⟨t, ⟨h34_, ⟨h35_, rfl⟩⟩⟩)⟩⟩⟩⟩⟩
def R_E_bring (I : Nat → Nat → Int32) (J : Nat → Nat → Int64) (F : Nat → Nat → Nat → Int32) (si : Nat → Nat) (tc oc : Nat) (p0 : Int32) (rv : Int32) (x1 : eS) : Prop := ∃ i, (i < tc ∧ (p0 = nI i ∧ (rv = I 8 i ∧ x1 = ((up2 I 8 i 0), J, F, si, tc, oc))))
set_option maxRecDepth 100000 in
theorem kE_bring {dA : Nat → ClassId} {ad : Nat → Nat} {G0 : mG} {I : Nat → Nat → Int32} {J : Nat → Nat → Int64} {F : Nat → Nat → Nat → Int32} {si : Nat → Nat} {tc oc : Nat} (ht : tc ≤ 12) (ho : oc ≤ 16)  {rv : Int32} {p0 : Int32} {u : mU} (h : ∃ i, i < tc ∧ p0 = nI i ∧ rv = I 8 i ∧ u = (ad, gE dA ad (up2 I 8 i 0) J F si tc oc G0)) : ∃ x1 : eS, (∀ k, k = 0 ∨ 1000 ≤ k → u.1 k = ad k) ∧ u.2 = gEx dA u.1 x1 G0 ∧ R_E_bring I J F si tc oc p0 rv x1 := by
  obtain ⟨i, h⟩ := h
  obtain ⟨h36_, h⟩ := h
  obtain ⟨h37_, h⟩ := h
  obtain ⟨h38_, h⟩ := h
  subst h
  exact ⟨((up2 I 8 i 0), J, F, si, tc, oc), fun _ _ => rfl, rfl, ⟨i, ⟨h36_, ⟨h37_, ⟨h38_, rfl⟩⟩⟩⟩⟩
def R_E_life (I : Nat → Nat → Int32) (J : Nat → Nat → Int64) (F : Nat → Nat → Nat → Int32) (si : Nat → Nat) (tc oc : Nat) (p0 p1 : Int32) (rv : Int32) (x1 : eS) : Prop := ∃ i kc, (i < 4 ∧ (p0 = nI i ∧ (¬ (p1 < 1 ∨ 1000 < p1) ∧ (I 2 i = nI kc ∧ (kc < 40 ∧ (rv = nI (kc + 1) ∧ x1 = ((up2 I 2 i (nI (kc + 1))), J, (up2 F 0 i (upd (F 0 i) kc p1)), si, tc, oc)))))))
set_option maxRecDepth 100000 in
theorem kE_life {dA : Nat → ClassId} {ad : Nat → Nat} {G0 : mG} {I : Nat → Nat → Int32} {J : Nat → Nat → Int64} {F : Nat → Nat → Nat → Int32} {si : Nat → Nat} {tc oc : Nat} (ht : tc ≤ 12) (ho : oc ≤ 16)  {rv : Int32} {p0 p1 : Int32} {u : mU} (h : ∃ i kc, i < 4 ∧ p0 = nI i ∧ ¬ (p1 < 1 ∨ 1000 < p1) ∧ I 2 i = nI kc ∧ kc < 40 ∧ rv = nI (kc + 1) ∧ u = (ad, gE dA ad (up2 I 2 i (nI (kc + 1))) J (up2 F 0 i (upd (F 0 i) kc p1)) si tc oc G0)) : ∃ x1 : eS, (∀ k, k = 0 ∨ 1000 ≤ k → u.1 k = ad k) ∧ u.2 = gEx dA u.1 x1 G0 ∧ R_E_life I J F si tc oc p0 p1 rv x1 := by
  obtain ⟨i, kc, h⟩ := h
  obtain ⟨h39_, h⟩ := h
  obtain ⟨h40_, h⟩ := h
  obtain ⟨h41_, h⟩ := h
  obtain ⟨h42_, h⟩ := h
  obtain ⟨h43_, h⟩ := h
  obtain ⟨h44_, h⟩ := h
  subst h
  exact ⟨((up2 I 2 i (nI (kc + 1))), J, (up2 F 0 i (upd (F 0 i) kc p1)), si, tc, oc), fun _ _ => rfl, rfl, ⟨i, kc, ⟨h39_, ⟨h40_, ⟨h41_, ⟨h42_, ⟨h43_, ⟨h44_, rfl⟩⟩⟩⟩⟩⟩⟩⟩
def R_E_cost (I : Nat → Nat → Int32) (J : Nat → Nat → Int64) (F : Nat → Nat → Nat → Int32) (si : Nat → Nat) (tc oc : Nat) (p0 p1 p2 : Int32) (x1 : eS) : Prop := ∃ i, (i < 4 ∧ (p0 = nI i ∧ (¬ (p1 < 0 ∨ 1000000 < p1 ∨ p2 < 0 ∨ 1000000 < p2) ∧ x1 = ((up2 (up2 I 3 i p1) 4 i p2), J, F, si, tc, oc))))
set_option maxRecDepth 100000 in
theorem kE_cost {dA : Nat → ClassId} {ad : Nat → Nat} {G0 : mG} {I : Nat → Nat → Int32} {J : Nat → Nat → Int64} {F : Nat → Nat → Nat → Int32} {si : Nat → Nat} {tc oc : Nat} (ht : tc ≤ 12) (ho : oc ≤ 16)  {p0 p1 p2 : Int32} {u : mU} (h : ∃ i, i < 4 ∧ p0 = nI i ∧ ¬ (p1 < 0 ∨ 1000000 < p1 ∨ p2 < 0 ∨ 1000000 < p2) ∧ u = (ad, gE dA ad (up2 (up2 I 3 i p1) 4 i p2) J F si tc oc G0)) : ∃ x1 : eS, (∀ k, k = 0 ∨ 1000 ≤ k → u.1 k = ad k) ∧ u.2 = gEx dA u.1 x1 G0 ∧ R_E_cost I J F si tc oc p0 p1 p2 x1 := by
  obtain ⟨i, h⟩ := h
  obtain ⟨h45_, h⟩ := h
  obtain ⟨h46_, h⟩ := h
  obtain ⟨h47_, h⟩ := h
  subst h
  exact ⟨((up2 (up2 I 3 i p1) 4 i p2), J, F, si, tc, oc), fun _ _ => rfl, rfl, ⟨i, ⟨h45_, ⟨h46_, ⟨h47_, rfl⟩⟩⟩⟩⟩
def R_E_change (I : Nat → Nat → Int32) (J : Nat → Nat → Int64) (F : Nat → Nat → Nat → Int32) (si : Nat → Nat) (tc oc : Nat) (p0 : Int32) (rv : Int32) (x1 : eS) : Prop := (∃ i kc, i < 4 ∧ p0 = nI i ∧ kc ≤ 40 ∧ I 2 i = nI kc ∧ 1 ≤ kc ∧ rv = eBest (F 0 i) (I 3 i) (I 4 i) kc (kc - 1)) ∧ x1 = (I, J, F, si, tc, oc)
def R_E_changed (I : Nat → Nat → Int32) (J : Nat → Nat → Int64) (F : Nat → Nat → Nat → Int32) (si : Nat → Nat) (tc oc : Nat) (p0 p1 p2 : Int32) (rv : Int64) (x1 : eS) : Prop := (∃ i kc, i < 4 ∧ p0 = nI i ∧ kc ≤ 40 ∧ I 2 i = nI kc ∧ (p2 = 0 ∨ p2 = 1) ∧ ¬ p1 < 1 ∧ p1 ≤ eMax (F 0 i) kc ∧ rv = if p2 = 0 then eCost (F 0 i) (I 3 i) (I 4 i) p1 kc else eUses (F 0 i) p1 kc) ∧ x1 = (I, J, F, si, tc, oc)
def R_E_breaks (I : Nat → Nat → Int32) (J : Nat → Nat → Int64) (F : Nat → Nat → Nat → Int32) (si : Nat → Nat) (tc oc : Nat) (p0 p1 : Int32) (rv : Int32) (x1 : eS) : Prop := (∃ i kc, i < 4 ∧ p0 = nI i ∧ kc ≤ 40 ∧ I 2 i = nI kc ∧ 1 ≤ kc ∧ ¬ p1 < 0 ∧ rv = F 0 i (eIx (eMix (I 0 0).toInt64 p0 p1) kc)) ∧ x1 = (I, J, F, si, tc, oc)
def R_E_rules (I : Nat → Nat → Int32) (J : Nat → Nat → Int64) (F : Nat → Nat → Nat → Int32) (si : Nat → Nat) (tc oc : Nat) (p0 p1 p2 p3 : Int32) (x1 : eS) : Prop := ¬ (p0 < 0 ∨ 1000000 < p0 ∨ p2 < 0 ∨ 1000000 < p2 ∨ p3 < 0 ∨ 1000000 < p3 ∨ p1 < 2 ∨ 12 < p1) ∧ x1 = ((up2 (up2 (up2 (up2 I 0 1 p0) 0 2 p1) 0 3 p2) 0 4 p3), J, F, si, tc, oc)
set_option maxRecDepth 100000 in
theorem kE_rules {dA : Nat → ClassId} {ad : Nat → Nat} {G0 : mG} {I : Nat → Nat → Int32} {J : Nat → Nat → Int64} {F : Nat → Nat → Nat → Int32} {si : Nat → Nat} {tc oc : Nat} (ht : tc ≤ 12) (ho : oc ≤ 16)  {p0 p1 p2 p3 : Int32} {u : mU} (h : ¬ (p0 < 0 ∨ 1000000 < p0 ∨ p2 < 0 ∨ 1000000 < p2 ∨ p3 < 0 ∨ 1000000 < p3 ∨ p1 < 2 ∨ 12 < p1) ∧ u = (ad, gE dA ad (up2 (up2 (up2 (up2 I 0 1 p0) 0 2 p1) 0 3 p2) 0 4 p3) J F si tc oc G0)) : ∃ x1 : eS, (∀ k, k = 0 ∨ 1000 ≤ k → u.1 k = ad k) ∧ u.2 = gEx dA u.1 x1 G0 ∧ R_E_rules I J F si tc oc p0 p1 p2 p3 x1 := by
  obtain ⟨h48_, h⟩ := h
  subst h
  exact ⟨((up2 (up2 (up2 (up2 I 0 1 p0) 0 2 p1) 0 3 p2) 0 4 p3), J, F, si, tc, oc), fun _ _ => rfl, rfl, ⟨h48_, rfl⟩⟩
def R_E_power (I : Nat → Nat → Int32) (J : Nat → Nat → Int64) (F : Nat → Nat → Nat → Int32) (si : Nat → Nat) (tc oc : Nat) (p0 p1 p2 : Int32) (rv : Int32) (x1 : eS) : Prop := ∃ i k, (i < tc ∧ (p0 = nI i ∧ (¬ (p2 < 0 ∨ 1000000 < p2 ∨ p1 ≤ I 10 i) ∧ (2 ≤ k ∧ (k ≤ 12 ∧ (I 0 2 = nI k ∧ (eFire rv (I 0 1 < (upd (va_cpy (F 1 i) (F 1 i) 0 1 23) 0 p2) 0) (nI k ≤ (if 24 < I 9 i + 1 then 24 else I 9 i + 1) ∧ ∀ i_1, i_1 + 1 < k → (upd (va_cpy (F 1 i) (F 1 i) 0 1 23) 0 p2) (i_1 + 1) < (upd (va_cpy (F 1 i) (F 1 i) 0 1 23) 0 p2) i_1) (nI k ≤ (if 24 < I 9 i + 1 then 24 else I 9 i + 1) ∧ ∀ i_1, i_1 < k → I 0 3 < (upd (va_cpy (F 1 i) (F 1 i) 0 1 23) 0 p2) i_1) (3 ≤ (if 24 < I 9 i + 1 then 24 else I 9 i + 1) ∧ I 0 4 < (if 0 ≤ (upd (va_cpy (F 1 i) (F 1 i) 0 1 23) 0 p2) 0 - (upd (va_cpy (F 1 i) (F 1 i) 0 1 23) 0 p2) 1 then (upd (va_cpy (F 1 i) (F 1 i) 0 1 23) 0 p2) 0 - (upd (va_cpy (F 1 i) (F 1 i) 0 1 23) 0 p2) 1 else 0 - ((upd (va_cpy (F 1 i) (F 1 i) 0 1 23) 0 p2) 0 - (upd (va_cpy (F 1 i) (F 1 i) 0 1 23) 0 p2) 1)) + (if 0 ≤ (upd (va_cpy (F 1 i) (F 1 i) 0 1 23) 0 p2) 1 - (upd (va_cpy (F 1 i) (F 1 i) 0 1 23) 0 p2) 2 then (upd (va_cpy (F 1 i) (F 1 i) 0 1 23) 0 p2) 1 - (upd (va_cpy (F 1 i) (F 1 i) 0 1 23) 0 p2) 2 else 0 - ((upd (va_cpy (F 1 i) (F 1 i) 0 1 23) 0 p2) 1 - (upd (va_cpy (F 1 i) (F 1 i) 0 1 23) 0 p2) 2))) ∧ x1 = ((up2 (up2 I 9 i (if 24 < I 9 i + 1 then 24 else I 9 i + 1)) 10 i p1), J, (up2 F 1 i (upd (va_cpy (F 1 i) (F 1 i) 0 1 23) 0 p2)), si, tc, oc))))))))
set_option maxRecDepth 100000 in
theorem kE_power {dA : Nat → ClassId} {ad : Nat → Nat} {G0 : mG} {I : Nat → Nat → Int32} {J : Nat → Nat → Int64} {F : Nat → Nat → Nat → Int32} {si : Nat → Nat} {tc oc : Nat} (ht : tc ≤ 12) (ho : oc ≤ 16)  {rv : Int32} {p0 p1 p2 : Int32} {u : mU} (h : ∃ i k, i < tc ∧ p0 = nI i ∧ ¬ (p2 < 0 ∨ 1000000 < p2 ∨ p1 ≤ I 10 i) ∧ 2 ≤ k ∧ k ≤ 12 ∧ I 0 2 = nI k ∧ eFire rv (I 0 1 < (upd (va_cpy (F 1 i) (F 1 i) 0 1 23) 0 p2) 0) (nI k ≤ (if 24 < I 9 i + 1 then 24 else I 9 i + 1) ∧ ∀ i_1, i_1 + 1 < k → (upd (va_cpy (F 1 i) (F 1 i) 0 1 23) 0 p2) (i_1 + 1) < (upd (va_cpy (F 1 i) (F 1 i) 0 1 23) 0 p2) i_1) (nI k ≤ (if 24 < I 9 i + 1 then 24 else I 9 i + 1) ∧ ∀ i_1, i_1 < k → I 0 3 < (upd (va_cpy (F 1 i) (F 1 i) 0 1 23) 0 p2) i_1) (3 ≤ (if 24 < I 9 i + 1 then 24 else I 9 i + 1) ∧ I 0 4 < (if 0 ≤ (upd (va_cpy (F 1 i) (F 1 i) 0 1 23) 0 p2) 0 - (upd (va_cpy (F 1 i) (F 1 i) 0 1 23) 0 p2) 1 then (upd (va_cpy (F 1 i) (F 1 i) 0 1 23) 0 p2) 0 - (upd (va_cpy (F 1 i) (F 1 i) 0 1 23) 0 p2) 1 else 0 - ((upd (va_cpy (F 1 i) (F 1 i) 0 1 23) 0 p2) 0 - (upd (va_cpy (F 1 i) (F 1 i) 0 1 23) 0 p2) 1)) + (if 0 ≤ (upd (va_cpy (F 1 i) (F 1 i) 0 1 23) 0 p2) 1 - (upd (va_cpy (F 1 i) (F 1 i) 0 1 23) 0 p2) 2 then (upd (va_cpy (F 1 i) (F 1 i) 0 1 23) 0 p2) 1 - (upd (va_cpy (F 1 i) (F 1 i) 0 1 23) 0 p2) 2 else 0 - ((upd (va_cpy (F 1 i) (F 1 i) 0 1 23) 0 p2) 1 - (upd (va_cpy (F 1 i) (F 1 i) 0 1 23) 0 p2) 2))) ∧ u = (ad, gE dA ad (up2 (up2 I 9 i (if 24 < I 9 i + 1 then 24 else I 9 i + 1)) 10 i p1) J (up2 F 1 i (upd (va_cpy (F 1 i) (F 1 i) 0 1 23) 0 p2)) si tc oc G0)) : ∃ x1 : eS, (∀ k, k = 0 ∨ 1000 ≤ k → u.1 k = ad k) ∧ u.2 = gEx dA u.1 x1 G0 ∧ R_E_power I J F si tc oc p0 p1 p2 rv x1 := by
  obtain ⟨i, k, h⟩ := h
  obtain ⟨h49_, h⟩ := h
  obtain ⟨h50_, h⟩ := h
  obtain ⟨h51_, h⟩ := h
  obtain ⟨h52_, h⟩ := h
  obtain ⟨h53_, h⟩ := h
  obtain ⟨h54_, h⟩ := h
  obtain ⟨h55_, h⟩ := h
  subst h
  exact ⟨((up2 (up2 I 9 i (if 24 < I 9 i + 1 then 24 else I 9 i + 1)) 10 i p1), J, (up2 F 1 i (upd (va_cpy (F 1 i) (F 1 i) 0 1 23) 0 p2)), si, tc, oc), fun _ _ => rfl, rfl, ⟨i, k, ⟨h49_, ⟨h50_, ⟨h51_, ⟨h52_, ⟨h53_, ⟨h54_, ⟨h55_, rfl⟩⟩⟩⟩⟩⟩⟩⟩⟩
def R_E_order (I : Nat → Nat → Int32) (J : Nat → Nat → Int64) (F : Nat → Nat → Nat → Int32) (si : Nat → Nat) (tc oc : Nat) (p0 p1 : Int32) (rv : Int32) (x1 : eS) : Prop := ∃ i, (i < tc ∧ (p0 = nI i ∧ (¬ (p1 < 0 ∨ 10000 < p1) ∧ ((oc = 16 ∧ (rv = 0 ∧ x1 = (I, J, F, si, tc, oc))) ∨ (oc < 16 ∧ (rv = 1 ∧ (∃ q : Nat, x1 = ((up2 (up2 (up2 I 11 oc (nI (si i))) 12 oc p1) 13 oc 0), J, F, si, tc, (oc + 1)))))))))
set_option maxRecDepth 100000 in
theorem kE_order {dA : Nat → ClassId} {ad : Nat → Nat} {G0 : mG} {I : Nat → Nat → Int32} {J : Nat → Nat → Int64} {F : Nat → Nat → Nat → Int32} {si : Nat → Nat} {tc oc : Nat} (ht : tc ≤ 12) (ho : oc ≤ 16)  {rv : Int32} {p0 p1 : Int32} {u : mU} (h : ∃ i, i < tc ∧ p0 = nI i ∧ ¬ (p1 < 0 ∨ 10000 < p1) ∧ ((oc = 16 ∧ rv = 0 ∧ u = (ad, gE dA ad I J F si tc oc G0)) ∨ (oc < 16 ∧ rv = 1 ∧ ∃ q : Nat, u = (va_up ad (400 + oc) q, gE dA (va_up ad (400 + oc) q) (up2 (up2 (up2 I 11 oc (nI (si i))) 12 oc p1) 13 oc 0) J F si tc (oc + 1) G0)))) : ∃ x1 : eS, (∀ k, k = 0 ∨ 1000 ≤ k → u.1 k = ad k) ∧ u.2 = gEx dA u.1 x1 G0 ∧ R_E_order I J F si tc oc p0 p1 rv x1 := by
  obtain ⟨i, h⟩ := h
  obtain ⟨h56_, h⟩ := h
  obtain ⟨h57_, h⟩ := h
  obtain ⟨h58_, h⟩ := h
  rcases h with h | h
  · obtain ⟨h59_, h⟩ := h
    obtain ⟨h60_, h⟩ := h
    subst h
    exact ⟨(I, J, F, si, tc, oc), fun _ _ => rfl, rfl, ⟨i, ⟨h56_, ⟨h57_, ⟨h58_, (Or.inl ⟨h59_, ⟨h60_, rfl⟩⟩)⟩⟩⟩⟩⟩
  · obtain ⟨h61_, h⟩ := h
    obtain ⟨h62_, h⟩ := h
    obtain ⟨q, h⟩ := h
    subst h
    exact ⟨((up2 (up2 (up2 I 11 oc (nI (si i))) 12 oc p1) 13 oc 0), J, F, si, tc, (oc + 1)), fun k hk => by
      show (va_up ad (400 + oc) q) k = ad k
      rw [va_up_ne _ _ (by omega)], rfl, ⟨i, ⟨h56_, ⟨h57_, ⟨h58_, (Or.inr ⟨h61_, ⟨h62_, ⟨q, rfl⟩⟩⟩)⟩⟩⟩⟩⟩
def R_E_joined (I : Nat → Nat → Int32) (J : Nat → Nat → Int64) (F : Nat → Nat → Nat → Int32) (si : Nat → Nat) (tc oc : Nat) (p0 p1 : Int32) (rv : Int32) (x1 : eS) : Prop := ∃ i, (i < 4 ∧ (p0 = nI i ∧ (¬ (p1 < 0 ∨ 10000 < p1) ∧ ((¬ (∃ t, t < oc ∧ eDu I oc (nI i) (p1 + 2) t = true) ∧ (rv = 0 ∧ x1 = (I, J, F, si, tc, oc))) ∨ ((∃ t, t < oc ∧ eDu I oc (nI i) (p1 + 2) t = true) ∧ (rv = nI (eCnt (eDu I oc (nI i) (p1 + 7)) 16) ∧ x1 = ((eCl I oc (nI i) (p1 + 7) 16), J, F, si, tc, oc)))))))
set_option maxRecDepth 100000 in
theorem kE_joined {dA : Nat → ClassId} {ad : Nat → Nat} {G0 : mG} {I : Nat → Nat → Int32} {J : Nat → Nat → Int64} {F : Nat → Nat → Nat → Int32} {si : Nat → Nat} {tc oc : Nat} (ht : tc ≤ 12) (ho : oc ≤ 16)  {rv : Int32} {p0 p1 : Int32} {u : mU} (h : ∃ i, i < 4 ∧ p0 = nI i ∧ ¬ (p1 < 0 ∨ 10000 < p1) ∧ ((¬ (∃ t, t < oc ∧ eDu I oc (nI i) (p1 + 2) t = true) ∧ rv = 0 ∧ u = (ad, gE dA ad I J F si tc oc G0)) ∨ ((∃ t, t < oc ∧ eDu I oc (nI i) (p1 + 2) t = true) ∧ rv = nI (eCnt (eDu I oc (nI i) (p1 + 7)) 16) ∧ u = (ad, gE dA ad (eCl I oc (nI i) (p1 + 7) 16) J F si tc oc G0)))) : ∃ x1 : eS, (∀ k, k = 0 ∨ 1000 ≤ k → u.1 k = ad k) ∧ u.2 = gEx dA u.1 x1 G0 ∧ R_E_joined I J F si tc oc p0 p1 rv x1 := by
  obtain ⟨i, h⟩ := h
  obtain ⟨h63_, h⟩ := h
  obtain ⟨h64_, h⟩ := h
  obtain ⟨h65_, h⟩ := h
  rcases h with h | h
  · obtain ⟨h66_, h⟩ := h
    obtain ⟨h67_, h⟩ := h
    subst h
    exact ⟨(I, J, F, si, tc, oc), fun _ _ => rfl, rfl, ⟨i, ⟨h63_, ⟨h64_, ⟨h65_, (Or.inl ⟨h66_, ⟨h67_, rfl⟩⟩)⟩⟩⟩⟩⟩
  · obtain ⟨h68_, h⟩ := h
    obtain ⟨h69_, h⟩ := h
    subst h
    exact ⟨((eCl I oc (nI i) (p1 + 7) 16), J, F, si, tc, oc), fun _ _ => rfl, rfl, ⟨i, ⟨h63_, ⟨h64_, ⟨h65_, (Or.inr ⟨h68_, ⟨h69_, rfl⟩⟩)⟩⟩⟩⟩⟩
def R_E_open (I : Nat → Nat → Int32) (J : Nat → Nat → Int64) (F : Nat → Nat → Nat → Int32) (si : Nat → Nat) (tc oc : Nat)  (rv : Int32) (x1 : eS) : Prop := (rv = nI (eCnt (eOp I oc) 16)) ∧ x1 = (I, J, F, si, tc, oc)
def R_E_chip (I : Nat → Nat → Int32) (J : Nat → Nat → Int64) (F : Nat → Nat → Nat → Int32) (si : Nat → Nat) (tc oc : Nat) (p0 p1 p2 p3 : Int32) (rv : Int32) (x1 : eS) : Prop := ((p3 = 0 ∨ p3 = 1) ∧ ¬ (p0 < 0 ∨ 1000000 < p0 ∨ p2 < 1 ∨ 1000 < p2 ∨ p1 < 0 ∨ p2 < p1) ∧ rv = eChip p0 p1 p2 p3) ∧ x1 = (I, J, F, si, tc, oc)
def R_M_tool (A : Nat → Nat → Int32) (B : Nat → Nat → Int64) (S : Nat → Int32) (sd : Int64) (tc : Nat) (p0 p1 p2 : Int32) (rv : Int32) (y1 : mSt) : Prop := (¬ (∃ i, i < 4 ∧ p0 = nI i) ∧ y1 = (A, B, (va_up S 0 1))) ∨ (((∃ i, i < 4 ∧ p0 = nI i) ∧ ((1000000 < p1 ∨ p2 < 0 ∨ p1 < p2) ∧ y1 = (A, B, (va_up S 0 2)))) ∨ (((∃ i, i < 4 ∧ p0 = nI i) ∧ (¬ (1000000 < p1 ∨ p2 < 0 ∨ p1 < p2) ∧ (tc = 12 ∧ y1 = (A, B, (va_up S 0 3))))) ∨ ((∃ i, i < 4 ∧ p0 = nI i) ∧ (¬ (1000000 < p1 ∨ p2 < 0 ∨ p1 < p2) ∧ (tc < 12 ∧ (rv = nI tc ∧ y1 = ((va_up (va_up (va_up A 3 (upd (A 3) tc p0)) 4 (upd (A 4) tc p1)) 5 (upd (A 5) tc p2)), B, (va_up (va_up S 0 0) 2 (nI (tc + 1))))))))))
set_option maxRecDepth 100000 in
theorem kM_tool {dA : Nat → ClassId} {ad : Nat → Nat} {G0 : mG} {A : Nat → Nat → Int32} {B : Nat → Nat → Int64} {S : Nat → Int32} {sd : Int64} {tc : Nat} {p0 p1 p2 : Int32} {rv : Int32} {u : mU} (h : (¬ (∃ i, i < 4 ∧ p0 = nI i) ∧ u = (ad, gM dA ad A B (va_up S 0 1) sd G0)) ∨ ((∃ i, i < 4 ∧ p0 = nI i) ∧ (1000000 < p1 ∨ p2 < 0 ∨ p1 < p2) ∧ u = (ad, gM dA ad A B (va_up S 0 2) sd G0)) ∨ ((∃ i, i < 4 ∧ p0 = nI i) ∧ ¬ (1000000 < p1 ∨ p2 < 0 ∨ p1 < p2) ∧ tc = 12 ∧ u = (ad, gM dA ad A B (va_up S 0 3) sd G0)) ∨ ((∃ i, i < 4 ∧ p0 = nI i) ∧ ¬ (1000000 < p1 ∨ p2 < 0 ∨ p1 < p2) ∧ tc < 12 ∧ rv = nI tc ∧ u = (ad, gM dA ad (va_up (va_up (va_up A 3 (upd (A 3) tc p0)) 4 (upd (A 4) tc p1)) 5 (upd (A 5) tc p2)) B (va_up (va_up S 0 0) 2 (nI (tc + 1))) sd G0))) : ∃ y1 : mSt, u = (ad, gMx dA ad y1 sd G0) ∧ R_M_tool A B S sd tc p0 p1 p2 rv y1 := by
  rcases h with h | h
  · obtain ⟨h70_, h⟩ := h
    subst h
    exact ⟨(A, B, (va_up S 0 1)), rfl, (Or.inl ⟨h70_, rfl⟩)⟩
  · rcases h with h | h
    · obtain ⟨h71_, h⟩ := h
      obtain ⟨h72_, h⟩ := h
      subst h
      exact ⟨(A, B, (va_up S 0 2)), rfl, (Or.inr (Or.inl ⟨h71_, ⟨h72_, rfl⟩⟩))⟩
    · rcases h with h | h
      · obtain ⟨h73_, h⟩ := h
        obtain ⟨h74_, h⟩ := h
        obtain ⟨h75_, h⟩ := h
        subst h
        exact ⟨(A, B, (va_up S 0 3)), rfl, (Or.inr (Or.inr (Or.inl ⟨h73_, ⟨h74_, ⟨h75_, rfl⟩⟩⟩)))⟩
      · obtain ⟨h76_, h⟩ := h
        obtain ⟨h77_, h⟩ := h
        obtain ⟨h78_, h⟩ := h
        obtain ⟨h79_, h⟩ := h
        subst h
        exact ⟨((va_up (va_up (va_up A 3 (upd (A 3) tc p0)) 4 (upd (A 4) tc p1)) 5 (upd (A 5) tc p2)), B, (va_up (va_up S 0 0) 2 (nI (tc + 1)))), rfl, (Or.inr (Or.inr (Or.inr ⟨h76_, ⟨h77_, ⟨h78_, ⟨h79_, rfl⟩⟩⟩⟩)))⟩
def R_M_rate (A : Nat → Nat → Int32) (B : Nat → Nat → Int64) (S : Nat → Int32) (sd : Int64)  (p0 p1 p2 : Int32) (y1 : mSt) : Prop := (¬ ((∃ a, a < 4 ∧ p0 = nI a) ∧ ∃ b, b < 4 ∧ p1 = nI b) ∧ y1 = (A, B, (va_up S 0 1))) ∨ ((((∃ a, a < 4 ∧ p0 = nI a) ∧ ∃ b, b < 4 ∧ p1 = nI b) ∧ ((p2 < 0 ∨ 1000000 < p2) ∧ y1 = (A, B, (va_up S 0 2)))) ∨ (∃ a b, (a < 4 ∧ (b < 4 ∧ (p0 = nI a ∧ (p1 = nI b ∧ (¬ (p2 < 0 ∨ 1000000 < p2) ∧ y1 = (A, (va_up B 11 (vp_updL (B 11) (4 * a + b) p2.toInt64)), (va_up S 0 0)))))))))
set_option maxRecDepth 100000 in
theorem kM_rate {dA : Nat → ClassId} {ad : Nat → Nat} {G0 : mG} {A : Nat → Nat → Int32} {B : Nat → Nat → Int64} {S : Nat → Int32} {sd : Int64}  {p0 p1 p2 : Int32} {u : mU} (h : (¬ ((∃ a, a < 4 ∧ p0 = nI a) ∧ ∃ b, b < 4 ∧ p1 = nI b) ∧ u = (ad, gM dA ad A B (va_up S 0 1) sd G0)) ∨ (((∃ a, a < 4 ∧ p0 = nI a) ∧ ∃ b, b < 4 ∧ p1 = nI b) ∧ (p2 < 0 ∨ 1000000 < p2) ∧ u = (ad, gM dA ad A B (va_up S 0 2) sd G0)) ∨ (∃ a b, a < 4 ∧ b < 4 ∧ p0 = nI a ∧ p1 = nI b ∧ ¬ (p2 < 0 ∨ 1000000 < p2) ∧ u = (ad, gM dA ad A (va_up B 11 (vp_updL (B 11) (4 * a + b) p2.toInt64)) (va_up S 0 0) sd G0))) : ∃ y1 : mSt, u = (ad, gMx dA ad y1 sd G0) ∧ R_M_rate A B S sd  p0 p1 p2 y1 := by
  rcases h with h | h
  · obtain ⟨h80_, h⟩ := h
    subst h
    exact ⟨(A, B, (va_up S 0 1)), rfl, (Or.inl ⟨h80_, rfl⟩)⟩
  · rcases h with h | h
    · obtain ⟨h81_, h⟩ := h
      obtain ⟨h82_, h⟩ := h
      subst h
      exact ⟨(A, B, (va_up S 0 2)), rfl, (Or.inr (Or.inl ⟨h81_, ⟨h82_, rfl⟩⟩))⟩
    · obtain ⟨a, b, h⟩ := h
      obtain ⟨h83_, h⟩ := h
      obtain ⟨h84_, h⟩ := h
      obtain ⟨h85_, h⟩ := h
      obtain ⟨h86_, h⟩ := h
      obtain ⟨h87_, h⟩ := h
      subst h
      exact ⟨(A, (va_up B 11 (vp_updL (B 11) (4 * a + b) p2.toInt64)), (va_up S 0 0)), rfl, (Or.inr (Or.inr ⟨a, b, ⟨h83_, ⟨h84_, ⟨h85_, ⟨h86_, ⟨h87_, rfl⟩⟩⟩⟩⟩⟩))⟩
def R_M_limit (A : Nat → Nat → Int32) (B : Nat → Nat → Int64) (S : Nat → Int32) (sd : Int64)  (p0 : Int32) (p1 : Int64) (y1 : mSt) : Prop := (¬ (∃ i, i < 4 ∧ p0 = nI i) ∧ y1 = (A, B, (va_up S 0 1))) ∨ (((∃ i, i < 4 ∧ p0 = nI i) ∧ ((p1 < 1 ∨ 1000000000000 < p1) ∧ y1 = (A, B, (va_up S 0 2)))) ∨ (∃ i, (i < 4 ∧ (p0 = nI i ∧ (¬ (p1 < 1 ∨ 1000000000000 < p1) ∧ y1 = (A, (va_up B 12 (vp_updL (B 12) i p1)), (va_up S 0 0)))))))
set_option maxRecDepth 100000 in
theorem kM_limit {dA : Nat → ClassId} {ad : Nat → Nat} {G0 : mG} {A : Nat → Nat → Int32} {B : Nat → Nat → Int64} {S : Nat → Int32} {sd : Int64}  {p0 : Int32} {p1 : Int64} {u : mU} (h : (¬ (∃ i, i < 4 ∧ p0 = nI i) ∧ u = (ad, gM dA ad A B (va_up S 0 1) sd G0)) ∨ ((∃ i, i < 4 ∧ p0 = nI i) ∧ (p1 < 1 ∨ 1000000000000 < p1) ∧ u = (ad, gM dA ad A B (va_up S 0 2) sd G0)) ∨ (∃ i, i < 4 ∧ p0 = nI i ∧ ¬ (p1 < 1 ∨ 1000000000000 < p1) ∧ u = (ad, gM dA ad A (va_up B 12 (vp_updL (B 12) i p1)) (va_up S 0 0) sd G0))) : ∃ y1 : mSt, u = (ad, gMx dA ad y1 sd G0) ∧ R_M_limit A B S sd  p0 p1 y1 := by
  rcases h with h | h
  · obtain ⟨h88_, h⟩ := h
    subst h
    exact ⟨(A, B, (va_up S 0 1)), rfl, (Or.inl ⟨h88_, rfl⟩)⟩
  · rcases h with h | h
    · obtain ⟨h89_, h⟩ := h
      obtain ⟨h90_, h⟩ := h
      subst h
      exact ⟨(A, B, (va_up S 0 2)), rfl, (Or.inr (Or.inl ⟨h89_, ⟨h90_, rfl⟩⟩))⟩
    · obtain ⟨i, h⟩ := h
      obtain ⟨h91_, h⟩ := h
      obtain ⟨h92_, h⟩ := h
      obtain ⟨h93_, h⟩ := h
      subst h
      exact ⟨(A, (va_up B 12 (vp_updL (B 12) i p1)), (va_up S 0 0)), rfl, (Or.inr (Or.inr ⟨i, ⟨h91_, ⟨h92_, ⟨h93_, rfl⟩⟩⟩⟩))⟩
def R_M_use (A : Nat → Nat → Int32) (B : Nat → Nat → Int64) (S : Nat → Int32) (sd : Int64) (tc : Nat) (si : Nat → Nat) (p0 p1 p2 p3 : Int32) (rv : Int32) (y1 : mSt) : Prop := (¬ ((∃ i, i < tc ∧ p0 = nI i) ∧ (∃ a, a < 4 ∧ p2 = nI a) ∧ ∃ b, b < 4 ∧ p3 = nI b) ∧ y1 = (A, B, (va_up S 0 1))) ∨ ((((∃ i, i < tc ∧ p0 = nI i) ∧ (∃ a, a < 4 ∧ p2 = nI a) ∧ ∃ b, b < 4 ∧ p3 = nI b) ∧ ((p1 < 0 ∨ 1000000 < p1) ∧ y1 = (A, B, (va_up S 0 2)))) ∨ (((∃ i, i < tc ∧ p0 = nI i ∧ ¬ A 7 i = 0) ∧ ((∃ a, a < 4 ∧ p2 = nI a) ∧ ((∃ b, b < 4 ∧ p3 = nI b) ∧ (¬ (p1 < 0 ∨ 1000000 < p1) ∧ y1 = (A, B, (va_up S 0 3)))))) ∨ (∃ t a b, (t < tc ∧ (p0 = nI t ∧ (a < 4 ∧ (p2 = nI a ∧ (b < 4 ∧ (p3 = nI b ∧ (¬ (p1 < 0 ∨ 1000000 < p1) ∧ (A 7 t = 0 ∧ (bv rv (¬ B 12 (si t) < eWear (B 6 t) (p1.toInt64 * B 11 (4 * a + b))) ∧ y1 = ((va_up A 9 (upd (A 9) t (A 9 t + 1))), (va_up B 6 (vp_updL (B 6) t (eWear (B 6 t) (p1.toInt64 * B 11 (4 * a + b))))), (va_up S 0 0))))))))))))))
set_option maxRecDepth 100000 in
theorem kM_use {dA : Nat → ClassId} {ad : Nat → Nat} {G0 : mG} {A : Nat → Nat → Int32} {B : Nat → Nat → Int64} {S : Nat → Int32} {sd : Int64} {tc : Nat} {si : Nat → Nat} {p0 p1 p2 p3 : Int32} {rv : Int32} {u : mU} (h : (¬ ((∃ i, i < tc ∧ p0 = nI i) ∧ (∃ a, a < 4 ∧ p2 = nI a) ∧ ∃ b, b < 4 ∧ p3 = nI b) ∧ u = (ad, gM dA ad A B (va_up S 0 1) sd G0)) ∨ (((∃ i, i < tc ∧ p0 = nI i) ∧ (∃ a, a < 4 ∧ p2 = nI a) ∧ ∃ b, b < 4 ∧ p3 = nI b) ∧ (p1 < 0 ∨ 1000000 < p1) ∧ u = (ad, gM dA ad A B (va_up S 0 2) sd G0)) ∨ ((∃ i, i < tc ∧ p0 = nI i ∧ ¬ A 7 i = 0) ∧ (∃ a, a < 4 ∧ p2 = nI a) ∧ (∃ b, b < 4 ∧ p3 = nI b) ∧ ¬ (p1 < 0 ∨ 1000000 < p1) ∧ u = (ad, gM dA ad A B (va_up S 0 3) sd G0)) ∨ (∃ t a b, t < tc ∧ p0 = nI t ∧ a < 4 ∧ p2 = nI a ∧ b < 4 ∧ p3 = nI b ∧ ¬ (p1 < 0 ∨ 1000000 < p1) ∧ A 7 t = 0 ∧ bv rv (¬ B 12 (si t) < eWear (B 6 t) (p1.toInt64 * B 11 (4 * a + b))) ∧ u = (ad, gM dA ad (va_up A 9 (upd (A 9) t (A 9 t + 1))) (va_up B 6 (vp_updL (B 6) t (eWear (B 6 t) (p1.toInt64 * B 11 (4 * a + b))))) (va_up S 0 0) sd G0))) : ∃ y1 : mSt, u = (ad, gMx dA ad y1 sd G0) ∧ R_M_use A B S sd tc si p0 p1 p2 p3 rv y1 := by
  rcases h with h | h
  · obtain ⟨h94_, h⟩ := h
    subst h
    exact ⟨(A, B, (va_up S 0 1)), rfl, (Or.inl ⟨h94_, rfl⟩)⟩
  · rcases h with h | h
    · obtain ⟨h95_, h⟩ := h
      obtain ⟨h96_, h⟩ := h
      subst h
      exact ⟨(A, B, (va_up S 0 2)), rfl, (Or.inr (Or.inl ⟨h95_, ⟨h96_, rfl⟩⟩))⟩
    · rcases h with h | h
      · obtain ⟨h97_, h⟩ := h
        obtain ⟨h98_, h⟩ := h
        obtain ⟨h99_, h⟩ := h
        obtain ⟨h100_, h⟩ := h
        subst h
        exact ⟨(A, B, (va_up S 0 3)), rfl, (Or.inr (Or.inr (Or.inl ⟨h97_, ⟨h98_, ⟨h99_, ⟨h100_, rfl⟩⟩⟩⟩)))⟩
      · obtain ⟨t, a, b, h⟩ := h
        obtain ⟨h101_, h⟩ := h
        obtain ⟨h102_, h⟩ := h
        obtain ⟨h103_, h⟩ := h
        obtain ⟨h104_, h⟩ := h
        obtain ⟨h105_, h⟩ := h
        obtain ⟨h106_, h⟩ := h
        obtain ⟨h107_, h⟩ := h
        obtain ⟨h108_, h⟩ := h
        obtain ⟨h109_, h⟩ := h
        subst h
        exact ⟨((va_up A 9 (upd (A 9) t (A 9 t + 1))), (va_up B 6 (vp_updL (B 6) t (eWear (B 6 t) (p1.toInt64 * B 11 (4 * a + b))))), (va_up S 0 0)), rfl, (Or.inr (Or.inr (Or.inr ⟨t, a, b, ⟨h101_, ⟨h102_, ⟨h103_, ⟨h104_, ⟨h105_, ⟨h106_, ⟨h107_, ⟨h108_, ⟨h109_, rfl⟩⟩⟩⟩⟩⟩⟩⟩⟩⟩)))⟩
def R_M_grind (A : Nat → Nat → Int32) (B : Nat → Nat → Int64) (S : Nat → Int32) (sd : Int64) (tc : Nat) (p0 p1 : Int32) (rv : Int32) (y1 : mSt) : Prop := (¬ (∃ i, i < tc ∧ p0 = nI i) ∧ y1 = (A, B, (va_up S 0 1))) ∨ (((∃ i, i < tc ∧ p0 = nI i) ∧ ((p1 < 1 ∨ 1000000 < p1) ∧ y1 = (A, B, (va_up S 0 2)))) ∨ (((∃ i, i < tc ∧ p0 = nI i ∧ ¬ A 7 i = 0) ∧ (¬ (p1 < 1 ∨ 1000000 < p1) ∧ y1 = (A, B, (va_up S 0 3)))) ∨ (∃ i, (i < tc ∧ (p0 = nI i ∧ (¬ (p1 < 1 ∨ 1000000 < p1) ∧ (A 7 i = 0 ∧ (if A 4 i - p1 < A 5 i then (rv = 0 ∧ y1 = ((va_up A 7 (upd (A 7) i 1)), B, (va_up S 0 0))) else (rv = 1 ∧ y1 = ((va_up (va_up A 4 (upd (A 4) i (A 4 i - p1))) 10 (upd (A 10) i (A 10 i + 1))), (va_up B 6 (vp_updL (B 6) i 0)), (va_up S 0 0)))))))))))
set_option maxRecDepth 100000 in
theorem kM_grind {dA : Nat → ClassId} {ad : Nat → Nat} {G0 : mG} {A : Nat → Nat → Int32} {B : Nat → Nat → Int64} {S : Nat → Int32} {sd : Int64} {tc : Nat} {p0 p1 : Int32} {rv : Int32} {u : mU} (h : (¬ (∃ i, i < tc ∧ p0 = nI i) ∧ u = (ad, gM dA ad A B (va_up S 0 1) sd G0)) ∨ ((∃ i, i < tc ∧ p0 = nI i) ∧ (p1 < 1 ∨ 1000000 < p1) ∧ u = (ad, gM dA ad A B (va_up S 0 2) sd G0)) ∨ ((∃ i, i < tc ∧ p0 = nI i ∧ ¬ A 7 i = 0) ∧ ¬ (p1 < 1 ∨ 1000000 < p1) ∧ u = (ad, gM dA ad A B (va_up S 0 3) sd G0)) ∨ (∃ i, i < tc ∧ p0 = nI i ∧ ¬ (p1 < 1 ∨ 1000000 < p1) ∧ A 7 i = 0 ∧ (if A 4 i - p1 < A 5 i then rv = 0 ∧ u = (ad, gM dA ad (va_up A 7 (upd (A 7) i 1)) B (va_up S 0 0) sd G0) else rv = 1 ∧ u = (ad, gM dA ad (va_up (va_up A 4 (upd (A 4) i (A 4 i - p1))) 10 (upd (A 10) i (A 10 i + 1))) (va_up B 6 (vp_updL (B 6) i 0)) (va_up S 0 0) sd G0)))) : ∃ y1 : mSt, u = (ad, gMx dA ad y1 sd G0) ∧ R_M_grind A B S sd tc p0 p1 rv y1 := by
  rcases h with h | h
  · obtain ⟨h110_, h⟩ := h
    subst h
    exact ⟨(A, B, (va_up S 0 1)), rfl, (Or.inl ⟨h110_, rfl⟩)⟩
  · rcases h with h | h
    · obtain ⟨h111_, h⟩ := h
      obtain ⟨h112_, h⟩ := h
      subst h
      exact ⟨(A, B, (va_up S 0 2)), rfl, (Or.inr (Or.inl ⟨h111_, ⟨h112_, rfl⟩⟩))⟩
    · rcases h with h | h
      · obtain ⟨h113_, h⟩ := h
        obtain ⟨h114_, h⟩ := h
        subst h
        exact ⟨(A, B, (va_up S 0 3)), rfl, (Or.inr (Or.inr (Or.inl ⟨h113_, ⟨h114_, rfl⟩⟩)))⟩
      · obtain ⟨i, h⟩ := h
        obtain ⟨h115_, h⟩ := h
        obtain ⟨h116_, h⟩ := h
        obtain ⟨h117_, h⟩ := h
        obtain ⟨h118_, h⟩ := h
        by_cases hc119 : A 4 i - p1 < A 5 i
        · rw [if_pos hc119] at h
          obtain ⟨h120_, h⟩ := h
          subst h
          exact ⟨((va_up A 7 (upd (A 7) i 1)), B, (va_up S 0 0)), rfl, (Or.inr (Or.inr (Or.inr ⟨i, ⟨h115_, ⟨h116_, ⟨h117_, ⟨h118_, (by rw [if_pos hc119]; exact ⟨h120_, rfl⟩)⟩⟩⟩⟩⟩)))⟩
        · rw [if_neg hc119] at h
          obtain ⟨h121_, h⟩ := h
          subst h
          exact ⟨((va_up (va_up A 4 (upd (A 4) i (A 4 i - p1))) 10 (upd (A 10) i (A 10 i + 1))), (va_up B 6 (vp_updL (B 6) i 0)), (va_up S 0 0)), rfl, (Or.inr (Or.inr (Or.inr ⟨i, ⟨h115_, ⟨h116_, ⟨h117_, ⟨h118_, (by rw [if_neg hc119]; exact ⟨h121_, rfl⟩)⟩⟩⟩⟩⟩)))⟩
def R_M_about (A : Nat → Nat → Int32) (B : Nat → Nat → Int64) (S : Nat → Int32) (sd : Int64) (tc : Nat) (si : Nat → Nat) (p0 p1 : Int32) (rv : Int64) (y1 : mSt) : Prop := (¬ ((∃ i, i < tc ∧ p0 = nI i) ∧ ¬ (p1 < 0 ∨ 5 < p1)) ∧ y1 = (A, B, (va_up S 0 1))) ∨ (∃ t, (t < tc ∧ (p0 = nI t ∧ (((p1 = 0 ∧ rv = B 6 t) ∨ (p1 = 1 ∧ rv = (A 4 t).toInt64) ∨ (p1 = 2 ∧ rv = (nI (si t)).toInt64) ∨ (p1 = 3 ∧ rv = ((if A 7 t = 0 then 0 else 1) + (if B 12 (si t) < B 6 t then 2 else 0) + (if A 8 t = 0 then 0 else 4) : Int32).toInt64) ∨ (p1 = 4 ∧ rv = (A 9 t).toInt64) ∨ (p1 = 5 ∧ rv = (A 10 t).toInt64)) ∧ y1 = (A, B, (va_up S 0 0))))))
set_option maxRecDepth 100000 in
theorem kM_about {dA : Nat → ClassId} {ad : Nat → Nat} {G0 : mG} {A : Nat → Nat → Int32} {B : Nat → Nat → Int64} {S : Nat → Int32} {sd : Int64} {tc : Nat} {si : Nat → Nat} {p0 p1 : Int32} {rv : Int64} {u : mU} (h : (¬ ((∃ i, i < tc ∧ p0 = nI i) ∧ ¬ (p1 < 0 ∨ 5 < p1)) ∧ u = (ad, gM dA ad A B (va_up S 0 1) sd G0)) ∨ (∃ t, t < tc ∧ p0 = nI t ∧ ((p1 = 0 ∧ rv = B 6 t) ∨ (p1 = 1 ∧ rv = (A 4 t).toInt64) ∨ (p1 = 2 ∧ rv = (nI (si t)).toInt64) ∨ (p1 = 3 ∧ rv = ((if A 7 t = 0 then 0 else 1) + (if B 12 (si t) < B 6 t then 2 else 0) + (if A 8 t = 0 then 0 else 4) : Int32).toInt64) ∨ (p1 = 4 ∧ rv = (A 9 t).toInt64) ∨ (p1 = 5 ∧ rv = (A 10 t).toInt64)) ∧ u = (ad, gM dA ad A B (va_up S 0 0) sd G0))) : ∃ y1 : mSt, u = (ad, gMx dA ad y1 sd G0) ∧ R_M_about A B S sd tc si p0 p1 rv y1 := by
  rcases h with h | h
  · obtain ⟨h122_, h⟩ := h
    subst h
    exact ⟨(A, B, (va_up S 0 1)), rfl, (Or.inl ⟨h122_, rfl⟩)⟩
  · obtain ⟨t, h⟩ := h
    obtain ⟨h123_, h⟩ := h
    obtain ⟨h124_, h⟩ := h
    obtain ⟨h125_, h⟩ := h
    subst h
    exact ⟨(A, B, (va_up S 0 0)), rfl, (Or.inr ⟨t, ⟨h123_, ⟨h124_, ⟨h125_, rfl⟩⟩⟩⟩)⟩
def R_M_spare (A : Nat → Nat → Int32) (B : Nat → Nat → Int64) (S : Nat → Int32) (sd : Int64) (tc : Nat) (p0 : Int32) (rv : Int32) (y1 : mSt) : Prop := (¬ (∃ i, i < 4 ∧ p0 = nI i) ∧ y1 = (A, B, (va_up S 0 1))) ∨ ((∃ i, i < 4 ∧ p0 = nI i) ∧ (rv = nI (eCnt (mSp A B p0) tc) ∧ y1 = (A, B, (va_up S 0 0))))
set_option maxRecDepth 100000 in
theorem kM_spare {dA : Nat → ClassId} {ad : Nat → Nat} {G0 : mG} {A : Nat → Nat → Int32} {B : Nat → Nat → Int64} {S : Nat → Int32} {sd : Int64} {tc : Nat} {p0 : Int32} {rv : Int32} {u : mU} (h : (¬ (∃ i, i < 4 ∧ p0 = nI i) ∧ u = (ad, gM dA ad A B (va_up S 0 1) sd G0)) ∨ ((∃ i, i < 4 ∧ p0 = nI i) ∧ rv = nI (eCnt (mSp A B p0) tc) ∧ u = (ad, gM dA ad A B (va_up S 0 0) sd G0))) : ∃ y1 : mSt, u = (ad, gMx dA ad y1 sd G0) ∧ R_M_spare A B S sd tc p0 rv y1 := by
  rcases h with h | h
  · obtain ⟨h126_, h⟩ := h
    subst h
    exact ⟨(A, B, (va_up S 0 1)), rfl, (Or.inl ⟨h126_, rfl⟩)⟩
  · obtain ⟨h127_, h⟩ := h
    obtain ⟨h128_, h⟩ := h
    subst h
    exact ⟨(A, B, (va_up S 0 0)), rfl, (Or.inr ⟨h127_, ⟨h128_, rfl⟩⟩)⟩
def R_M_take (A : Nat → Nat → Int32) (B : Nat → Nat → Int64) (S : Nat → Int32) (sd : Int64) (tc : Nat) (p0 : Int32) (rv : Int32) (y1 : mSt) : Prop := (¬ (∃ i, i < 4 ∧ p0 = nI i) ∧ y1 = (A, B, (va_up S 0 1))) ∨ ((∃ i, i < 4 ∧ p0 = nI i) ∧ ((mNx (mSp A B p0) (A 4) tc = none ∧ (rv = -1 ∧ y1 = (A, B, (va_up S 0 0)))) ∨ (∃ t, (t < tc ∧ (mNx (mSp A B p0) (A 4) tc = some t ∧ (rv = nI t ∧ y1 = ((va_up A 8 (upd (A 8) t 1)), B, (va_up S 0 0))))))))
set_option maxRecDepth 100000 in
theorem kM_take {dA : Nat → ClassId} {ad : Nat → Nat} {G0 : mG} {A : Nat → Nat → Int32} {B : Nat → Nat → Int64} {S : Nat → Int32} {sd : Int64} {tc : Nat} {p0 : Int32} {rv : Int32} {u : mU} (h : (¬ (∃ i, i < 4 ∧ p0 = nI i) ∧ u = (ad, gM dA ad A B (va_up S 0 1) sd G0)) ∨ ((∃ i, i < 4 ∧ p0 = nI i) ∧ ((mNx (mSp A B p0) (A 4) tc = none ∧ rv = -1 ∧ u = (ad, gM dA ad A B (va_up S 0 0) sd G0)) ∨ ∃ t, t < tc ∧ mNx (mSp A B p0) (A 4) tc = some t ∧ rv = nI t ∧ u = (ad, gM dA ad (va_up A 8 (upd (A 8) t 1)) B (va_up S 0 0) sd G0)))) : ∃ y1 : mSt, u = (ad, gMx dA ad y1 sd G0) ∧ R_M_take A B S sd tc p0 rv y1 := by
  rcases h with h | h
  · obtain ⟨h129_, h⟩ := h
    subst h
    exact ⟨(A, B, (va_up S 0 1)), rfl, (Or.inl ⟨h129_, rfl⟩)⟩
  · obtain ⟨h130_, h⟩ := h
    rcases h with h | h
    · obtain ⟨h131_, h⟩ := h
      obtain ⟨h132_, h⟩ := h
      subst h
      exact ⟨(A, B, (va_up S 0 0)), rfl, (Or.inr ⟨h130_, (Or.inl ⟨h131_, ⟨h132_, rfl⟩⟩)⟩)⟩
    · obtain ⟨t, h⟩ := h
      obtain ⟨h133_, h⟩ := h
      obtain ⟨h134_, h⟩ := h
      obtain ⟨h135_, h⟩ := h
      subst h
      exact ⟨((va_up A 8 (upd (A 8) t 1)), B, (va_up S 0 0)), rfl, (Or.inr ⟨h130_, (Or.inr ⟨t, ⟨h133_, ⟨h134_, ⟨h135_, rfl⟩⟩⟩⟩)⟩)⟩
def R_M_bring (A : Nat → Nat → Int32) (B : Nat → Nat → Int64) (S : Nat → Int32) (sd : Int64) (tc : Nat) (p0 : Int32) (rv : Int32) (y1 : mSt) : Prop := (¬ (∃ i, i < tc ∧ p0 = nI i) ∧ y1 = (A, B, (va_up S 0 1))) ∨ (∃ t, (t < tc ∧ (p0 = nI t ∧ (rv = A 8 t ∧ y1 = ((va_up A 8 (upd (A 8) t 0)), B, (va_up S 0 0))))))
set_option maxRecDepth 100000 in
theorem kM_bring {dA : Nat → ClassId} {ad : Nat → Nat} {G0 : mG} {A : Nat → Nat → Int32} {B : Nat → Nat → Int64} {S : Nat → Int32} {sd : Int64} {tc : Nat} {p0 : Int32} {rv : Int32} {u : mU} (h : (¬ (∃ i, i < tc ∧ p0 = nI i) ∧ u = (ad, gM dA ad A B (va_up S 0 1) sd G0)) ∨ (∃ t, t < tc ∧ p0 = nI t ∧ rv = A 8 t ∧ u = (ad, gM dA ad (va_up A 8 (upd (A 8) t 0)) B (va_up S 0 0) sd G0))) : ∃ y1 : mSt, u = (ad, gMx dA ad y1 sd G0) ∧ R_M_bring A B S sd tc p0 rv y1 := by
  rcases h with h | h
  · obtain ⟨h136_, h⟩ := h
    subst h
    exact ⟨(A, B, (va_up S 0 1)), rfl, (Or.inl ⟨h136_, rfl⟩)⟩
  · obtain ⟨t, h⟩ := h
    obtain ⟨h137_, h⟩ := h
    obtain ⟨h138_, h⟩ := h
    obtain ⟨h139_, h⟩ := h
    subst h
    exact ⟨((va_up A 8 (upd (A 8) t 0)), B, (va_up S 0 0)), rfl, (Or.inr ⟨t, ⟨h137_, ⟨h138_, ⟨h139_, rfl⟩⟩⟩⟩)⟩
def R_M_life (A : Nat → Nat → Int32) (B : Nat → Nat → Int64) (S : Nat → Int32) (sd : Int64)  (p0 p1 : Int32) (rv : Int32) (y1 : mSt) : Prop := (¬ (∃ i, i < 4 ∧ p0 = nI i) ∧ y1 = (A, B, (va_up S 0 1))) ∨ (((∃ i, i < 4 ∧ p0 = nI i) ∧ ((p1 < 1 ∨ 1000 < p1) ∧ y1 = (A, B, (va_up S 0 2)))) ∨ (((∃ i, i < 4 ∧ p0 = nI i ∧ A 14 i = nI 40) ∧ (¬ (p1 < 1 ∨ 1000 < p1) ∧ y1 = (A, B, (va_up S 0 3)))) ∨ (∃ i kc, (i < 4 ∧ (p0 = nI i ∧ (¬ (p1 < 1 ∨ 1000 < p1) ∧ (A 14 i = nI kc ∧ (kc < 40 ∧ (rv = nI (kc + 1) ∧ y1 = ((va_up (va_up A 13 (upd (A 13) (40 * i + kc) p1)) 14 (upd (A 14) i (nI (kc + 1)))), B, (va_up S 0 0)))))))))))
set_option maxRecDepth 100000 in
theorem kM_life {dA : Nat → ClassId} {ad : Nat → Nat} {G0 : mG} {A : Nat → Nat → Int32} {B : Nat → Nat → Int64} {S : Nat → Int32} {sd : Int64}  {p0 p1 : Int32} {rv : Int32} {u : mU} (h : (¬ (∃ i, i < 4 ∧ p0 = nI i) ∧ u = (ad, gM dA ad A B (va_up S 0 1) sd G0)) ∨ ((∃ i, i < 4 ∧ p0 = nI i) ∧ (p1 < 1 ∨ 1000 < p1) ∧ u = (ad, gM dA ad A B (va_up S 0 2) sd G0)) ∨ ((∃ i, i < 4 ∧ p0 = nI i ∧ A 14 i = nI 40) ∧ ¬ (p1 < 1 ∨ 1000 < p1) ∧ u = (ad, gM dA ad A B (va_up S 0 3) sd G0)) ∨ (∃ i kc, i < 4 ∧ p0 = nI i ∧ ¬ (p1 < 1 ∨ 1000 < p1) ∧ A 14 i = nI kc ∧ kc < 40 ∧ rv = nI (kc + 1) ∧ u = (ad, gM dA ad (va_up (va_up A 13 (upd (A 13) (40 * i + kc) p1)) 14 (upd (A 14) i (nI (kc + 1)))) B (va_up S 0 0) sd G0))) : ∃ y1 : mSt, u = (ad, gMx dA ad y1 sd G0) ∧ R_M_life A B S sd  p0 p1 rv y1 := by
  rcases h with h | h
  · obtain ⟨h140_, h⟩ := h
    subst h
    exact ⟨(A, B, (va_up S 0 1)), rfl, (Or.inl ⟨h140_, rfl⟩)⟩
  · rcases h with h | h
    · obtain ⟨h141_, h⟩ := h
      obtain ⟨h142_, h⟩ := h
      subst h
      exact ⟨(A, B, (va_up S 0 2)), rfl, (Or.inr (Or.inl ⟨h141_, ⟨h142_, rfl⟩⟩))⟩
    · rcases h with h | h
      · obtain ⟨h143_, h⟩ := h
        obtain ⟨h144_, h⟩ := h
        subst h
        exact ⟨(A, B, (va_up S 0 3)), rfl, (Or.inr (Or.inr (Or.inl ⟨h143_, ⟨h144_, rfl⟩⟩)))⟩
      · obtain ⟨i, kc, h⟩ := h
        obtain ⟨h145_, h⟩ := h
        obtain ⟨h146_, h⟩ := h
        obtain ⟨h147_, h⟩ := h
        obtain ⟨h148_, h⟩ := h
        obtain ⟨h149_, h⟩ := h
        obtain ⟨h150_, h⟩ := h
        subst h
        exact ⟨((va_up (va_up A 13 (upd (A 13) (40 * i + kc) p1)) 14 (upd (A 14) i (nI (kc + 1)))), B, (va_up S 0 0)), rfl, (Or.inr (Or.inr (Or.inr ⟨i, kc, ⟨h145_, ⟨h146_, ⟨h147_, ⟨h148_, ⟨h149_, ⟨h150_, rfl⟩⟩⟩⟩⟩⟩⟩)))⟩
def R_M_cost (A : Nat → Nat → Int32) (B : Nat → Nat → Int64) (S : Nat → Int32) (sd : Int64)  (p0 p1 p2 : Int32) (y1 : mSt) : Prop := (¬ (∃ i, i < 4 ∧ p0 = nI i) ∧ y1 = (A, B, (va_up S 0 1))) ∨ (((∃ i, i < 4 ∧ p0 = nI i) ∧ ((p1 < 0 ∨ 1000000 < p1 ∨ p2 < 0 ∨ 1000000 < p2) ∧ y1 = (A, B, (va_up S 0 2)))) ∨ (∃ i, (i < 4 ∧ (p0 = nI i ∧ (¬ (p1 < 0 ∨ 1000000 < p1 ∨ p2 < 0 ∨ 1000000 < p2) ∧ y1 = (A, (va_up (va_up B 15 (vp_updL (B 15) i p1.toInt64)) 16 (vp_updL (B 16) i p2.toInt64)), (va_up S 0 0)))))))
set_option maxRecDepth 100000 in
theorem kM_cost {dA : Nat → ClassId} {ad : Nat → Nat} {G0 : mG} {A : Nat → Nat → Int32} {B : Nat → Nat → Int64} {S : Nat → Int32} {sd : Int64}  {p0 p1 p2 : Int32} {u : mU} (h : (¬ (∃ i, i < 4 ∧ p0 = nI i) ∧ u = (ad, gM dA ad A B (va_up S 0 1) sd G0)) ∨ ((∃ i, i < 4 ∧ p0 = nI i) ∧ (p1 < 0 ∨ 1000000 < p1 ∨ p2 < 0 ∨ 1000000 < p2) ∧ u = (ad, gM dA ad A B (va_up S 0 2) sd G0)) ∨ (∃ i, i < 4 ∧ p0 = nI i ∧ ¬ (p1 < 0 ∨ 1000000 < p1 ∨ p2 < 0 ∨ 1000000 < p2) ∧ u = (ad, gM dA ad A (va_up (va_up B 15 (vp_updL (B 15) i p1.toInt64)) 16 (vp_updL (B 16) i p2.toInt64)) (va_up S 0 0) sd G0))) : ∃ y1 : mSt, u = (ad, gMx dA ad y1 sd G0) ∧ R_M_cost A B S sd  p0 p1 p2 y1 := by
  rcases h with h | h
  · obtain ⟨h151_, h⟩ := h
    subst h
    exact ⟨(A, B, (va_up S 0 1)), rfl, (Or.inl ⟨h151_, rfl⟩)⟩
  · rcases h with h | h
    · obtain ⟨h152_, h⟩ := h
      obtain ⟨h153_, h⟩ := h
      subst h
      exact ⟨(A, B, (va_up S 0 2)), rfl, (Or.inr (Or.inl ⟨h152_, ⟨h153_, rfl⟩⟩))⟩
    · obtain ⟨i, h⟩ := h
      obtain ⟨h154_, h⟩ := h
      obtain ⟨h155_, h⟩ := h
      obtain ⟨h156_, h⟩ := h
      subst h
      exact ⟨(A, (va_up (va_up B 15 (vp_updL (B 15) i p1.toInt64)) 16 (vp_updL (B 16) i p2.toInt64)), (va_up S 0 0)), rfl, (Or.inr (Or.inr ⟨i, ⟨h154_, ⟨h155_, ⟨h156_, rfl⟩⟩⟩⟩))⟩
def R_M_change (A : Nat → Nat → Int32) (B : Nat → Nat → Int64) (S : Nat → Int32) (sd : Int64) (ch fa : Nat → Int32) (p0 : Int32) (rv : Int32) (y1 : mSt) : Prop := (¬ (∃ i, i < 4 ∧ p0 = nI i) ∧ y1 = (A, B, (va_up S 0 1))) ∨ (((∃ i, i < 4 ∧ p0 = nI i ∧ A 14 i = 0) ∧ y1 = (A, B, (va_up S 0 2))) ∨ (∃ i kc m, (i < 4 ∧ (p0 = nI i ∧ (kc ≤ 40 ∧ (A 14 i = nI kc ∧ (1 ≤ kc ∧ (m ≤ 1000 ∧ (eMax (fun q => A 13 (40 * i + q)) kc = nI m ∧ (rv = nI (mBs (fun q => A 13 (40 * i + q)) (ch i) (fa i) kc (m - 1)) ∧ y1 = (A, B, (va_up S 0 0))))))))))))
set_option maxRecDepth 100000 in
theorem kM_change {dA : Nat → ClassId} {ad : Nat → Nat} {G0 : mG} {A : Nat → Nat → Int32} {B : Nat → Nat → Int64} {S : Nat → Int32} {sd : Int64} {ch fa : Nat → Int32} {p0 : Int32} {rv : Int32} {u : mU} (h : (¬ (∃ i, i < 4 ∧ p0 = nI i) ∧ u = (ad, gM dA ad A B (va_up S 0 1) sd G0)) ∨ ((∃ i, i < 4 ∧ p0 = nI i ∧ A 14 i = 0) ∧ u = (ad, gM dA ad A B (va_up S 0 2) sd G0)) ∨ (∃ i kc m, i < 4 ∧ p0 = nI i ∧ kc ≤ 40 ∧ A 14 i = nI kc ∧ 1 ≤ kc ∧ m ≤ 1000 ∧ eMax (fun q => A 13 (40 * i + q)) kc = nI m ∧ rv = nI (mBs (fun q => A 13 (40 * i + q)) (ch i) (fa i) kc (m - 1)) ∧ u = (ad, gM dA ad A B (va_up S 0 0) sd G0))) : ∃ y1 : mSt, u = (ad, gMx dA ad y1 sd G0) ∧ R_M_change A B S sd ch fa p0 rv y1 := by
  rcases h with h | h
  · obtain ⟨h157_, h⟩ := h
    subst h
    exact ⟨(A, B, (va_up S 0 1)), rfl, (Or.inl ⟨h157_, rfl⟩)⟩
  · rcases h with h | h
    · obtain ⟨h158_, h⟩ := h
      subst h
      exact ⟨(A, B, (va_up S 0 2)), rfl, (Or.inr (Or.inl ⟨h158_, rfl⟩))⟩
    · obtain ⟨i, kc, m, h⟩ := h
      obtain ⟨h159_, h⟩ := h
      obtain ⟨h160_, h⟩ := h
      obtain ⟨h161_, h⟩ := h
      obtain ⟨h162_, h⟩ := h
      obtain ⟨h163_, h⟩ := h
      obtain ⟨h164_, h⟩ := h
      obtain ⟨h165_, h⟩ := h
      obtain ⟨h166_, h⟩ := h
      subst h
      exact ⟨(A, B, (va_up S 0 0)), rfl, (Or.inr (Or.inr ⟨i, kc, m, ⟨h159_, ⟨h160_, ⟨h161_, ⟨h162_, ⟨h163_, ⟨h164_, ⟨h165_, ⟨h166_, rfl⟩⟩⟩⟩⟩⟩⟩⟩⟩))⟩
def R_M_changed (A : Nat → Nat → Int32) (B : Nat → Nat → Int64) (S : Nat → Int32) (sd : Int64) (ch fa : Nat → Int32) (p0 p1 p2 : Int32) (rv : Int64) (y1 : mSt) : Prop := (¬ ((∃ i, i < 4 ∧ p0 = nI i) ∧ (p2 = 0 ∨ p2 = 1)) ∧ y1 = (A, B, (va_up S 0 1))) ∨ ((((∃ i, i < 4 ∧ p0 = nI i) ∧ (p2 = 0 ∨ p2 = 1)) ∧ (p1 < 1 ∧ y1 = (A, B, (va_up S 0 2)))) ∨ ((((p2 = 0 ∨ p2 = 1) ∧ ¬ p1 < 1 ∧ ∃ i kc, i < 4 ∧ p0 = nI i ∧ kc ≤ 40 ∧ A 14 i = nI kc ∧ eMax (fun q => A 13 (40 * i + q)) kc < p1) ∧ y1 = (A, B, (va_up S 0 3))) ∨ (∃ i kc, (i < 4 ∧ (p0 = nI i ∧ (kc ≤ 40 ∧ (A 14 i = nI kc ∧ ((p2 = 0 ∨ p2 = 1) ∧ (¬ p1 < 1 ∧ (p1 ≤ eMax (fun q => A 13 (40 * i + q)) kc ∧ ((rv = if p2 = 0 then eCost (fun q => A 13 (40 * i + q)) (ch i) (fa i) p1 kc else eUses (fun q => A 13 (40 * i + q)) p1 kc) ∧ y1 = (A, B, (va_up S 0 0)))))))))))))
set_option maxRecDepth 100000 in
theorem kM_changed {dA : Nat → ClassId} {ad : Nat → Nat} {G0 : mG} {A : Nat → Nat → Int32} {B : Nat → Nat → Int64} {S : Nat → Int32} {sd : Int64} {ch fa : Nat → Int32} {p0 p1 p2 : Int32} {rv : Int64} {u : mU} (h : (¬ ((∃ i, i < 4 ∧ p0 = nI i) ∧ (p2 = 0 ∨ p2 = 1)) ∧ u = (ad, gM dA ad A B (va_up S 0 1) sd G0)) ∨ (((∃ i, i < 4 ∧ p0 = nI i) ∧ (p2 = 0 ∨ p2 = 1)) ∧ p1 < 1 ∧ u = (ad, gM dA ad A B (va_up S 0 2) sd G0)) ∨ (((p2 = 0 ∨ p2 = 1) ∧ ¬ p1 < 1 ∧ ∃ i kc, i < 4 ∧ p0 = nI i ∧ kc ≤ 40 ∧ A 14 i = nI kc ∧ eMax (fun q => A 13 (40 * i + q)) kc < p1) ∧ u = (ad, gM dA ad A B (va_up S 0 3) sd G0)) ∨ (∃ i kc, i < 4 ∧ p0 = nI i ∧ kc ≤ 40 ∧ A 14 i = nI kc ∧ (p2 = 0 ∨ p2 = 1) ∧ ¬ p1 < 1 ∧ p1 ≤ eMax (fun q => A 13 (40 * i + q)) kc ∧ (rv = if p2 = 0 then eCost (fun q => A 13 (40 * i + q)) (ch i) (fa i) p1 kc else eUses (fun q => A 13 (40 * i + q)) p1 kc) ∧ u = (ad, gM dA ad A B (va_up S 0 0) sd G0))) : ∃ y1 : mSt, u = (ad, gMx dA ad y1 sd G0) ∧ R_M_changed A B S sd ch fa p0 p1 p2 rv y1 := by
  rcases h with h | h
  · obtain ⟨h167_, h⟩ := h
    subst h
    exact ⟨(A, B, (va_up S 0 1)), rfl, (Or.inl ⟨h167_, rfl⟩)⟩
  · rcases h with h | h
    · obtain ⟨h168_, h⟩ := h
      obtain ⟨h169_, h⟩ := h
      subst h
      exact ⟨(A, B, (va_up S 0 2)), rfl, (Or.inr (Or.inl ⟨h168_, ⟨h169_, rfl⟩⟩))⟩
    · rcases h with h | h
      · obtain ⟨h170_, h⟩ := h
        subst h
        exact ⟨(A, B, (va_up S 0 3)), rfl, (Or.inr (Or.inr (Or.inl ⟨h170_, rfl⟩)))⟩
      · obtain ⟨i, kc, h⟩ := h
        obtain ⟨h171_, h⟩ := h
        obtain ⟨h172_, h⟩ := h
        obtain ⟨h173_, h⟩ := h
        obtain ⟨h174_, h⟩ := h
        obtain ⟨h175_, h⟩ := h
        obtain ⟨h176_, h⟩ := h
        obtain ⟨h177_, h⟩ := h
        obtain ⟨h178_, h⟩ := h
        subst h
        exact ⟨(A, B, (va_up S 0 0)), rfl, (Or.inr (Or.inr (Or.inr ⟨i, kc, ⟨h171_, ⟨h172_, ⟨h173_, ⟨h174_, ⟨h175_, ⟨h176_, ⟨h177_, ⟨h178_, rfl⟩⟩⟩⟩⟩⟩⟩⟩⟩)))⟩
def R_M_breaks (A : Nat → Nat → Int32) (B : Nat → Nat → Int64) (S : Nat → Int32) (sd : Int64)  (p0 p1 : Int32) (rv : Int32) (y1 : mSt) : Prop := (¬ (∃ i, i < 4 ∧ p0 = nI i) ∧ y1 = (A, B, (va_up S 0 1))) ∨ (((∃ i, i < 4 ∧ p0 = nI i) ∧ (p1 < 0 ∧ y1 = (A, B, (va_up S 0 2)))) ∨ (((∃ i, i < 4 ∧ p0 = nI i ∧ A 14 i = 0) ∧ (¬ p1 < 0 ∧ y1 = (A, B, (va_up S 0 3)))) ∨ (∃ i kc, (i < 4 ∧ (p0 = nI i ∧ (kc ≤ 40 ∧ (A 14 i = nI kc ∧ (1 ≤ kc ∧ (¬ p1 < 0 ∧ (rv = A 13 (40 * i + eIx (eMix sd p0 p1) kc) ∧ y1 = (A, B, (va_up S 0 0))))))))))))
set_option maxRecDepth 100000 in
theorem kM_breaks {dA : Nat → ClassId} {ad : Nat → Nat} {G0 : mG} {A : Nat → Nat → Int32} {B : Nat → Nat → Int64} {S : Nat → Int32} {sd : Int64}  {p0 p1 : Int32} {rv : Int32} {u : mU} (h : (¬ (∃ i, i < 4 ∧ p0 = nI i) ∧ u = (ad, gM dA ad A B (va_up S 0 1) sd G0)) ∨ ((∃ i, i < 4 ∧ p0 = nI i) ∧ p1 < 0 ∧ u = (ad, gM dA ad A B (va_up S 0 2) sd G0)) ∨ ((∃ i, i < 4 ∧ p0 = nI i ∧ A 14 i = 0) ∧ ¬ p1 < 0 ∧ u = (ad, gM dA ad A B (va_up S 0 3) sd G0)) ∨ (∃ i kc, i < 4 ∧ p0 = nI i ∧ kc ≤ 40 ∧ A 14 i = nI kc ∧ 1 ≤ kc ∧ ¬ p1 < 0 ∧ rv = A 13 (40 * i + eIx (eMix sd p0 p1) kc) ∧ u = (ad, gM dA ad A B (va_up S 0 0) sd G0))) : ∃ y1 : mSt, u = (ad, gMx dA ad y1 sd G0) ∧ R_M_breaks A B S sd  p0 p1 rv y1 := by
  rcases h with h | h
  · obtain ⟨h179_, h⟩ := h
    subst h
    exact ⟨(A, B, (va_up S 0 1)), rfl, (Or.inl ⟨h179_, rfl⟩)⟩
  · rcases h with h | h
    · obtain ⟨h180_, h⟩ := h
      obtain ⟨h181_, h⟩ := h
      subst h
      exact ⟨(A, B, (va_up S 0 2)), rfl, (Or.inr (Or.inl ⟨h180_, ⟨h181_, rfl⟩⟩))⟩
    · rcases h with h | h
      · obtain ⟨h182_, h⟩ := h
        obtain ⟨h183_, h⟩ := h
        subst h
        exact ⟨(A, B, (va_up S 0 3)), rfl, (Or.inr (Or.inr (Or.inl ⟨h182_, ⟨h183_, rfl⟩⟩)))⟩
      · obtain ⟨i, kc, h⟩ := h
        obtain ⟨h184_, h⟩ := h
        obtain ⟨h185_, h⟩ := h
        obtain ⟨h186_, h⟩ := h
        obtain ⟨h187_, h⟩ := h
        obtain ⟨h188_, h⟩ := h
        obtain ⟨h189_, h⟩ := h
        obtain ⟨h190_, h⟩ := h
        subst h
        exact ⟨(A, B, (va_up S 0 0)), rfl, (Or.inr (Or.inr (Or.inr ⟨i, kc, ⟨h184_, ⟨h185_, ⟨h186_, ⟨h187_, ⟨h188_, ⟨h189_, ⟨h190_, rfl⟩⟩⟩⟩⟩⟩⟩⟩)))⟩
def R_M_rules (A : Nat → Nat → Int32) (B : Nat → Nat → Int64) (S : Nat → Int32) (sd : Int64)  (p0 p1 p2 p3 : Int32) (y1 : mSt) : Prop := ((p0 < 0 ∨ 1000000 < p0 ∨ p2 < 0 ∨ 1000000 < p2 ∨ p3 < 0 ∨ 1000000 < p3 ∨ p1 < 2 ∨ 12 < p1) ∧ y1 = (A, B, (va_up S 0 1))) ∨ (¬ (p0 < 0 ∨ 1000000 < p0 ∨ p2 < 0 ∨ 1000000 < p2 ∨ p3 < 0 ∨ 1000000 < p3 ∨ p1 < 2 ∨ 12 < p1) ∧ y1 = (A, B, (va_up (va_up (va_up (va_up (va_up S 0 0) 17 p0) 18 p1) 19 p2) 20 p3)))
set_option maxRecDepth 100000 in
theorem kM_rules {dA : Nat → ClassId} {ad : Nat → Nat} {G0 : mG} {A : Nat → Nat → Int32} {B : Nat → Nat → Int64} {S : Nat → Int32} {sd : Int64}  {p0 p1 p2 p3 : Int32} {u : mU} (h : ((p0 < 0 ∨ 1000000 < p0 ∨ p2 < 0 ∨ 1000000 < p2 ∨ p3 < 0 ∨ 1000000 < p3 ∨ p1 < 2 ∨ 12 < p1) ∧ u = (ad, gM dA ad A B (va_up S 0 1) sd G0)) ∨ (¬ (p0 < 0 ∨ 1000000 < p0 ∨ p2 < 0 ∨ 1000000 < p2 ∨ p3 < 0 ∨ 1000000 < p3 ∨ p1 < 2 ∨ 12 < p1) ∧ u = (ad, gM dA ad A B (va_up (va_up (va_up (va_up (va_up S 0 0) 17 p0) 18 p1) 19 p2) 20 p3) sd G0))) : ∃ y1 : mSt, u = (ad, gMx dA ad y1 sd G0) ∧ R_M_rules A B S sd  p0 p1 p2 p3 y1 := by
  rcases h with h | h
  · obtain ⟨h191_, h⟩ := h
    subst h
    exact ⟨(A, B, (va_up S 0 1)), rfl, (Or.inl ⟨h191_, rfl⟩)⟩
  · obtain ⟨h192_, h⟩ := h
    subst h
    exact ⟨(A, B, (va_up (va_up (va_up (va_up (va_up S 0 0) 17 p0) 18 p1) 19 p2) 20 p3)), rfl, (Or.inr ⟨h192_, rfl⟩)⟩
def R_M_power (A : Nat → Nat → Int32) (B : Nat → Nat → Int64) (S : Nat → Int32) (sd : Int64) (tc : Nat) (R : Nat) (p0 p1 p2 : Int32) (rv : Int32) (y1 : mSt) : Prop := (¬ (∃ i, i < tc ∧ p0 = nI i) ∧ y1 = (A, B, (va_up S 0 1))) ∨ (((∃ t, t < tc ∧ p0 = nI t ∧ (p2 < 0 ∨ 1000000 < p2 ∨ p1 ≤ A 23 t)) ∧ y1 = (A, B, (va_up S 0 2))) ∨ (∃ t c9, (t < tc ∧ (p0 = nI t ∧ (¬ (p2 < 0 ∨ 1000000 < p2 ∨ p1 ≤ A 23 t) ∧ (c9 ≤ 24 ∧ (A 22 t = nI c9 ∧ (eFire rv (S 17 < (mPw (A 21) t p2) (24 * t + 0)) (nI (R + 1) ≤ nI (if c9 < 24 then c9 + 1 else 24) ∧ ∀ i, i + 1 < R + 1 → (mPw (A 21) t p2) (24 * t + (i + 1)) < (mPw (A 21) t p2) (24 * t + i)) (nI (R + 1) ≤ nI (if c9 < 24 then c9 + 1 else 24) ∧ ∀ i, i < R + 1 → S 19 < (mPw (A 21) t p2) (24 * t + i)) (3 ≤ nI (if c9 < 24 then c9 + 1 else 24) ∧ S 20 < (if 0 ≤ (mPw (A 21) t p2) (24 * t + 0) - (mPw (A 21) t p2) (24 * t + 1) then (mPw (A 21) t p2) (24 * t + 0) - (mPw (A 21) t p2) (24 * t + 1) else 0 - ((mPw (A 21) t p2) (24 * t + 0) - (mPw (A 21) t p2) (24 * t + 1))) + (if 0 ≤ (mPw (A 21) t p2) (24 * t + 1) - (mPw (A 21) t p2) (24 * t + 2) then (mPw (A 21) t p2) (24 * t + 1) - (mPw (A 21) t p2) (24 * t + 2) else 0 - ((mPw (A 21) t p2) (24 * t + 1) - (mPw (A 21) t p2) (24 * t + 2)))) ∧ y1 = ((va_up (va_up (va_up A 23 (upd (A 23) t p1)) 21 (mPw (A 21) t p2)) 22 (upd (A 22) t (nI (if c9 < 24 then c9 + 1 else 24)))), B, (va_up S 0 0))))))))))
set_option maxRecDepth 100000 in
theorem kM_power {dA : Nat → ClassId} {ad : Nat → Nat} {G0 : mG} {A : Nat → Nat → Int32} {B : Nat → Nat → Int64} {S : Nat → Int32} {sd : Int64} {tc : Nat} {R : Nat} {p0 p1 p2 : Int32} {rv : Int32} {u : mU} (h : (¬ (∃ i, i < tc ∧ p0 = nI i) ∧ u = (ad, gM dA ad A B (va_up S 0 1) sd G0)) ∨ ((∃ t, t < tc ∧ p0 = nI t ∧ (p2 < 0 ∨ 1000000 < p2 ∨ p1 ≤ A 23 t)) ∧ u = (ad, gM dA ad A B (va_up S 0 2) sd G0)) ∨ (∃ t c9, t < tc ∧ p0 = nI t ∧ ¬ (p2 < 0 ∨ 1000000 < p2 ∨ p1 ≤ A 23 t) ∧ c9 ≤ 24 ∧ A 22 t = nI c9 ∧ eFire rv (S 17 < (mPw (A 21) t p2) (24 * t + 0)) (nI (R + 1) ≤ nI (if c9 < 24 then c9 + 1 else 24) ∧ ∀ i, i + 1 < R + 1 → (mPw (A 21) t p2) (24 * t + (i + 1)) < (mPw (A 21) t p2) (24 * t + i)) (nI (R + 1) ≤ nI (if c9 < 24 then c9 + 1 else 24) ∧ ∀ i, i < R + 1 → S 19 < (mPw (A 21) t p2) (24 * t + i)) (3 ≤ nI (if c9 < 24 then c9 + 1 else 24) ∧ S 20 < (if 0 ≤ (mPw (A 21) t p2) (24 * t + 0) - (mPw (A 21) t p2) (24 * t + 1) then (mPw (A 21) t p2) (24 * t + 0) - (mPw (A 21) t p2) (24 * t + 1) else 0 - ((mPw (A 21) t p2) (24 * t + 0) - (mPw (A 21) t p2) (24 * t + 1))) + (if 0 ≤ (mPw (A 21) t p2) (24 * t + 1) - (mPw (A 21) t p2) (24 * t + 2) then (mPw (A 21) t p2) (24 * t + 1) - (mPw (A 21) t p2) (24 * t + 2) else 0 - ((mPw (A 21) t p2) (24 * t + 1) - (mPw (A 21) t p2) (24 * t + 2)))) ∧ u = (ad, gM dA ad (va_up (va_up (va_up A 23 (upd (A 23) t p1)) 21 (mPw (A 21) t p2)) 22 (upd (A 22) t (nI (if c9 < 24 then c9 + 1 else 24)))) B (va_up S 0 0) sd G0))) : ∃ y1 : mSt, u = (ad, gMx dA ad y1 sd G0) ∧ R_M_power A B S sd tc R p0 p1 p2 rv y1 := by
  rcases h with h | h
  · obtain ⟨h193_, h⟩ := h
    subst h
    exact ⟨(A, B, (va_up S 0 1)), rfl, (Or.inl ⟨h193_, rfl⟩)⟩
  · rcases h with h | h
    · obtain ⟨h194_, h⟩ := h
      subst h
      exact ⟨(A, B, (va_up S 0 2)), rfl, (Or.inr (Or.inl ⟨h194_, rfl⟩))⟩
    · obtain ⟨t, c9, h⟩ := h
      obtain ⟨h195_, h⟩ := h
      obtain ⟨h196_, h⟩ := h
      obtain ⟨h197_, h⟩ := h
      obtain ⟨h198_, h⟩ := h
      obtain ⟨h199_, h⟩ := h
      obtain ⟨h200_, h⟩ := h
      subst h
      exact ⟨((va_up (va_up (va_up A 23 (upd (A 23) t p1)) 21 (mPw (A 21) t p2)) 22 (upd (A 22) t (nI (if c9 < 24 then c9 + 1 else 24)))), B, (va_up S 0 0)), rfl, (Or.inr (Or.inr ⟨t, c9, ⟨h195_, ⟨h196_, ⟨h197_, ⟨h198_, ⟨h199_, ⟨h200_, rfl⟩⟩⟩⟩⟩⟩⟩))⟩
def R_M_order (A : Nat → Nat → Int32) (B : Nat → Nat → Int64) (S : Nat → Int32) (sd : Int64) (tc : Nat) (on oc : Nat) (p0 p1 : Int32) (rv : Int32) (y1 : mSt) : Prop := (¬ (∃ i, i < tc ∧ p0 = nI i) ∧ y1 = (A, B, (va_up S 0 1))) ∨ (((∃ i, i < tc ∧ p0 = nI i) ∧ ((p1 < 0 ∨ 10000 < p1) ∧ y1 = (A, B, (va_up S 0 2)))) ∨ (∃ t, (t < tc ∧ (p0 = nI t ∧ (¬ (p1 < 0 ∨ 10000 < p1) ∧ ((oc = 16 ∧ (rv = 0 ∧ y1 = (A, B, (va_up S 0 0)))) ∨ (oc < 16 ∧ (rv = 1 ∧ y1 = ((va_up (va_up A 24 (upd (A 24) on p0)) 25 (upd (A 25) on p1)), B, (va_up (va_up (va_up S 0 0) 26 (nI (on + 1))) 27 (nI (oc + 1))))))))))))
set_option maxRecDepth 100000 in
theorem kM_order {dA : Nat → ClassId} {ad : Nat → Nat} {G0 : mG} {A : Nat → Nat → Int32} {B : Nat → Nat → Int64} {S : Nat → Int32} {sd : Int64} {tc : Nat} {on oc : Nat} {p0 p1 : Int32} {rv : Int32} {u : mU} (h : (¬ (∃ i, i < tc ∧ p0 = nI i) ∧ u = (ad, gM dA ad A B (va_up S 0 1) sd G0)) ∨ ((∃ i, i < tc ∧ p0 = nI i) ∧ (p1 < 0 ∨ 10000 < p1) ∧ u = (ad, gM dA ad A B (va_up S 0 2) sd G0)) ∨ (∃ t, t < tc ∧ p0 = nI t ∧ ¬ (p1 < 0 ∨ 10000 < p1) ∧ ((oc = 16 ∧ rv = 0 ∧ u = (ad, gM dA ad A B (va_up S 0 0) sd G0)) ∨ (oc < 16 ∧ rv = 1 ∧ u = (ad, gM dA ad (va_up (va_up A 24 (upd (A 24) on p0)) 25 (upd (A 25) on p1)) B (va_up (va_up (va_up S 0 0) 26 (nI (on + 1))) 27 (nI (oc + 1))) sd G0))))) : ∃ y1 : mSt, u = (ad, gMx dA ad y1 sd G0) ∧ R_M_order A B S sd tc on oc p0 p1 rv y1 := by
  rcases h with h | h
  · obtain ⟨h201_, h⟩ := h
    subst h
    exact ⟨(A, B, (va_up S 0 1)), rfl, (Or.inl ⟨h201_, rfl⟩)⟩
  · rcases h with h | h
    · obtain ⟨h202_, h⟩ := h
      obtain ⟨h203_, h⟩ := h
      subst h
      exact ⟨(A, B, (va_up S 0 2)), rfl, (Or.inr (Or.inl ⟨h202_, ⟨h203_, rfl⟩⟩))⟩
    · obtain ⟨t, h⟩ := h
      obtain ⟨h204_, h⟩ := h
      obtain ⟨h205_, h⟩ := h
      obtain ⟨h206_, h⟩ := h
      rcases h with h | h
      · obtain ⟨h207_, h⟩ := h
        obtain ⟨h208_, h⟩ := h
        subst h
        exact ⟨(A, B, (va_up S 0 0)), rfl, (Or.inr (Or.inr ⟨t, ⟨h204_, ⟨h205_, ⟨h206_, (Or.inl ⟨h207_, ⟨h208_, rfl⟩⟩)⟩⟩⟩⟩))⟩
      · obtain ⟨h209_, h⟩ := h
        obtain ⟨h210_, h⟩ := h
        subst h
        exact ⟨((va_up (va_up A 24 (upd (A 24) on p0)) 25 (upd (A 25) on p1)), B, (va_up (va_up (va_up S 0 0) 26 (nI (on + 1))) 27 (nI (oc + 1)))), rfl, (Or.inr (Or.inr ⟨t, ⟨h204_, ⟨h205_, ⟨h206_, (Or.inr ⟨h209_, ⟨h210_, rfl⟩⟩)⟩⟩⟩⟩))⟩
def R_M_joined (A : Nat → Nat → Int32) (B : Nat → Nat → Int64) (S : Nat → Int32) (sd : Int64) (on : Nat) (to : Nat → Nat) (p0 p1 : Int32) (rv : Int32) (y1 : mSt) : Prop := (¬ (∃ i, i < 4 ∧ p0 = nI i) ∧ y1 = (A, B, (va_up S 0 1))) ∨ (((∃ i, i < 4 ∧ p0 = nI i) ∧ ((p1 < 0 ∨ 10000 < p1) ∧ y1 = (A, B, (va_up S 0 2)))) ∨ ((∃ i, i < 4 ∧ p0 = nI i) ∧ (¬ (p1 < 0 ∨ 10000 < p1) ∧ (∃ d : Int32, (bv d (∃ o, o < on ∧ mDu A to p0 (p1 + 2) o = true) ∧ (rv = nI (on - eCnt (mKp A to d p0 (p1 + 7)) on) ∧ y1 = ((va_up (va_up A 24 (mCp (A 24) (mKp A to d p0 (p1 + 7)) on)) 25 (mCp (A 25) (mKp A to d p0 (p1 + 7)) on)), B, (va_up (va_up S 0 0) 26 (nI (eCnt (mKp A to d p0 (p1 + 7)) on))))))))))
set_option maxRecDepth 100000 in
theorem kM_joined {dA : Nat → ClassId} {ad : Nat → Nat} {G0 : mG} {A : Nat → Nat → Int32} {B : Nat → Nat → Int64} {S : Nat → Int32} {sd : Int64} {on : Nat} {to : Nat → Nat} {p0 p1 : Int32} {rv : Int32} {u : mU} (h : (¬ (∃ i, i < 4 ∧ p0 = nI i) ∧ u = (ad, gM dA ad A B (va_up S 0 1) sd G0)) ∨ ((∃ i, i < 4 ∧ p0 = nI i) ∧ (p1 < 0 ∨ 10000 < p1) ∧ u = (ad, gM dA ad A B (va_up S 0 2) sd G0)) ∨ ((∃ i, i < 4 ∧ p0 = nI i) ∧ ¬ (p1 < 0 ∨ 10000 < p1) ∧ ∃ d : Int32, bv d (∃ o, o < on ∧ mDu A to p0 (p1 + 2) o = true) ∧ rv = nI (on - eCnt (mKp A to d p0 (p1 + 7)) on) ∧ u = (ad, gM dA ad (va_up (va_up A 24 (mCp (A 24) (mKp A to d p0 (p1 + 7)) on)) 25 (mCp (A 25) (mKp A to d p0 (p1 + 7)) on)) B (va_up (va_up S 0 0) 26 (nI (eCnt (mKp A to d p0 (p1 + 7)) on))) sd G0))) : ∃ y1 : mSt, u = (ad, gMx dA ad y1 sd G0) ∧ R_M_joined A B S sd on to p0 p1 rv y1 := by
  rcases h with h | h
  · obtain ⟨h211_, h⟩ := h
    subst h
    exact ⟨(A, B, (va_up S 0 1)), rfl, (Or.inl ⟨h211_, rfl⟩)⟩
  · rcases h with h | h
    · obtain ⟨h212_, h⟩ := h
      obtain ⟨h213_, h⟩ := h
      subst h
      exact ⟨(A, B, (va_up S 0 2)), rfl, (Or.inr (Or.inl ⟨h212_, ⟨h213_, rfl⟩⟩))⟩
    · obtain ⟨h214_, h⟩ := h
      obtain ⟨h215_, h⟩ := h
      obtain ⟨d, h⟩ := h
      obtain ⟨h216_, h⟩ := h
      obtain ⟨h217_, h⟩ := h
      subst h
      exact ⟨((va_up (va_up A 24 (mCp (A 24) (mKp A to d p0 (p1 + 7)) on)) 25 (mCp (A 25) (mKp A to d p0 (p1 + 7)) on)), B, (va_up (va_up S 0 0) 26 (nI (eCnt (mKp A to d p0 (p1 + 7)) on)))), rfl, (Or.inr (Or.inr ⟨h214_, ⟨h215_, ⟨d, ⟨h216_, ⟨h217_, rfl⟩⟩⟩⟩⟩))⟩
def R_M_open (A : Nat → Nat → Int32) (B : Nat → Nat → Int64) (S : Nat → Int32) (sd : Int64)   (rv : Int32) (y1 : mSt) : Prop := rv = S 26 ∧ y1 = (A, B, (va_up S 0 0))
set_option maxRecDepth 100000 in
theorem kM_open {dA : Nat → ClassId} {ad : Nat → Nat} {G0 : mG} {A : Nat → Nat → Int32} {B : Nat → Nat → Int64} {S : Nat → Int32} {sd : Int64}   {rv : Int32} {u : mU} (h : rv = S 26 ∧ u = (ad, gM dA ad A B (va_up S 0 0) sd G0)) : ∃ y1 : mSt, u = (ad, gMx dA ad y1 sd G0) ∧ R_M_open A B S sd   rv y1 := by
  obtain ⟨h218_, h⟩ := h
  subst h
  exact ⟨(A, B, (va_up S 0 0)), rfl, ⟨h218_, rfl⟩⟩
def R_M_chip (A : Nat → Nat → Int32) (B : Nat → Nat → Int64) (S : Nat → Int32) (sd : Int64)  (p0 p1 p2 p3 : Int32) (rv : Int32) (y1 : mSt) : Prop := (¬ (p3 = 0 ∨ p3 = 1) ∧ y1 = (A, B, (va_up S 0 1))) ∨ (((p3 = 0 ∨ p3 = 1) ∧ ((p0 < 0 ∨ 1000000 < p0 ∨ p2 < 1 ∨ 1000 < p2 ∨ p1 < 0 ∨ p2 < p1) ∧ y1 = (A, B, (va_up S 0 2)))) ∨ ((p3 = 0 ∨ p3 = 1) ∧ (¬ (p0 < 0 ∨ 1000000 < p0 ∨ p2 < 1 ∨ 1000 < p2 ∨ p1 < 0 ∨ p2 < p1) ∧ (∃ a d w x : Nat, (p0 = nI a ∧ (p1 = nI d ∧ (p2 = nI w ∧ (a ≤ 1000000 ∧ (1 ≤ w ∧ (w ≤ 1000 ∧ (d ≤ w ∧ (x ≤ 1000000 ∧ (x * x * (w * w) ≤ 4 * a * a * d * (w - d) ∧ (4 * a * a * d * (w - d) < (x + 1) * (x + 1) * (w * w) ∧ (rv = nI (if p3 = 0 ∨ x * x * (w * w) = 4 * a * a * d * (w - d) then x else x + 1) ∧ y1 = (A, B, (va_up S 0 0)))))))))))))))))
set_option maxRecDepth 100000 in
theorem kM_chip {dA : Nat → ClassId} {ad : Nat → Nat} {G0 : mG} {A : Nat → Nat → Int32} {B : Nat → Nat → Int64} {S : Nat → Int32} {sd : Int64}  {p0 p1 p2 p3 : Int32} {rv : Int32} {u : mU} (h : (¬ (p3 = 0 ∨ p3 = 1) ∧ u = (ad, gM dA ad A B (va_up S 0 1) sd G0)) ∨ ((p3 = 0 ∨ p3 = 1) ∧ (p0 < 0 ∨ 1000000 < p0 ∨ p2 < 1 ∨ 1000 < p2 ∨ p1 < 0 ∨ p2 < p1) ∧ u = (ad, gM dA ad A B (va_up S 0 2) sd G0)) ∨ ((p3 = 0 ∨ p3 = 1) ∧ ¬ (p0 < 0 ∨ 1000000 < p0 ∨ p2 < 1 ∨ 1000 < p2 ∨ p1 < 0 ∨ p2 < p1) ∧ ∃ a d w x : Nat, p0 = nI a ∧ p1 = nI d ∧ p2 = nI w ∧ a ≤ 1000000 ∧ 1 ≤ w ∧ w ≤ 1000 ∧ d ≤ w ∧ x ≤ 1000000 ∧ x * x * (w * w) ≤ 4 * a * a * d * (w - d) ∧ 4 * a * a * d * (w - d) < (x + 1) * (x + 1) * (w * w) ∧ rv = nI (if p3 = 0 ∨ x * x * (w * w) = 4 * a * a * d * (w - d) then x else x + 1) ∧ u = (ad, gM dA ad A B (va_up S 0 0) sd G0))) : ∃ y1 : mSt, u = (ad, gMx dA ad y1 sd G0) ∧ R_M_chip A B S sd  p0 p1 p2 p3 rv y1 := by
  rcases h with h | h
  · obtain ⟨h219_, h⟩ := h
    subst h
    exact ⟨(A, B, (va_up S 0 1)), rfl, (Or.inl ⟨h219_, rfl⟩)⟩
  · rcases h with h | h
    · obtain ⟨h220_, h⟩ := h
      obtain ⟨h221_, h⟩ := h
      subst h
      exact ⟨(A, B, (va_up S 0 2)), rfl, (Or.inr (Or.inl ⟨h220_, ⟨h221_, rfl⟩⟩))⟩
    · obtain ⟨h222_, h⟩ := h
      obtain ⟨h223_, h⟩ := h
      obtain ⟨a, d, w, x, h⟩ := h
      obtain ⟨h224_, h⟩ := h
      obtain ⟨h225_, h⟩ := h
      obtain ⟨h226_, h⟩ := h
      obtain ⟨h227_, h⟩ := h
      obtain ⟨h228_, h⟩ := h
      obtain ⟨h229_, h⟩ := h
      obtain ⟨h230_, h⟩ := h
      obtain ⟨h231_, h⟩ := h
      obtain ⟨h232_, h⟩ := h
      obtain ⟨h233_, h⟩ := h
      obtain ⟨h234_, h⟩ := h
      subst h
      exact ⟨(A, B, (va_up S 0 0)), rfl, (Or.inr (Or.inr ⟨h222_, ⟨h223_, ⟨a, d, w, x, ⟨h224_, ⟨h225_, ⟨h226_, ⟨h227_, ⟨h228_, ⟨h229_, ⟨h230_, ⟨h231_, ⟨h232_, ⟨h233_, ⟨h234_, rfl⟩⟩⟩⟩⟩⟩⟩⟩⟩⟩⟩⟩⟩⟩))⟩
