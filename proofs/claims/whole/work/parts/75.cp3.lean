set_option maxRecDepth 100000 in
theorem cp_change {n : Nat} {I : Nat → Nat → Int32} {J : Nat → Nat → Int64} {F : Nat → Nat → Nat → Int32} {si : Nat → Nat} {tc oc : Nat} {A : Nat → Nat → Int32} {B : Nat → Nat → Int64} {S : Nat → Int32} {sd : Int64} (hK : Kp n (I, J, F, si, tc, oc) (A, B, S) sd)  {p0 : Int32} {k : Int32} {o : Int64} {rv : Int32} {x1 : eS} {y1 : mSt} (h1 : R_L_change I J F si tc oc p0 k o x1) (h2 : R_M_change A B S sd (I 3) (I 4) p0 rv y1) : y1.2.2 0 = k ∧ (k = 0 → o = rv.toInt64) ∧ Kp (n + 1) x1 y1 sd := by
  have hl : ∀ {i j kc : Nat} {p : Int32}, i < 4 → j < 4 → p = nI i → p = nI j → I 2 i = nI kc → A 14 j = nI kc := fun {i j kc p} h1 h2 h3 h4 h5 => by
    obtain rfl := nI_in2 (h3.symm.trans h4) h1 h2 (by decide)
    exact (hK.2.2.1 i h1).1.trans h5
  have hl2 : ∀ {i j kc : Nat} {p : Int32}, i < 4 → j < 4 → p = nI i → p = nI j → A 14 j = nI kc → I 2 i = nI kc := fun {i j kc p} h1 h2 h3 h4 h5 => by
    obtain rfl := nI_in2 (h3.symm.trans h4) h1 h2 (by decide)
    exact (hK.2.2.1 i h1).1.symm.trans h5
  have hne : ∀ {a b : Nat} {v : Int32}, v = nI a → v = nI b → a ≤ 40 → b ≤ 40 → a ≠ b → False := fun {a b v} h1 h2 h3 h4 h5 => h5 ((nI_eq (by omega) (by omega)).mp (h1.symm.trans h2))
  rcases h1 with ⟨rfl, r9, ho1, ⟨⟨i, kc, hi, ep, hkc, ekc, hk1, er⟩, rfl⟩⟩ | ⟨rfl, hc, rfl⟩ | ⟨rfl, ⟨i, hi, ep, h40⟩, rfl⟩
  · rcases h2 with ⟨hd, rfl⟩ | ⟨⟨i2, hi2, ep2, h402⟩, rfl⟩ | ⟨i2, kc2, m, hi2, ep2, hkc2, ekc2, hk12, hm, em, er2, rfl⟩
    · first | exact (hd ⟨i, hi, ep⟩).elim | exact (hc ⟨i2, hi2, ep2⟩).elim | exact (hne (hl hi hi2 ep ep2 ekc) (b := 0) h402 (by omega) (by omega) (by omega)).elim | exact (hne (hl hi hi2 ep ep2 (kc := 0) h40) ekc2 (by omega) (by omega) (by omega)).elim
    · first | exact (hd ⟨i, hi, ep⟩).elim | exact (hc ⟨i2, hi2, ep2⟩).elim | exact (hne (hl hi hi2 ep ep2 ekc) (b := 0) h402 (by omega) (by omega) (by omega)).elim | exact (hne (hl hi hi2 ep ep2 (kc := 0) h40) ekc2 (by omega) (by omega) (by omega)).elim
    · obtain rfl := nI_in2 (ep.symm.trans ep2) hi hi2 (by decide)
      have ek : kc = kc2 := (nI_eq (by omega) (by omega)).mp ((hl hi hi2 ep ep2 ekc).symm.trans ekc2)
      subst ek
      obtain ⟨a1, ⟨c0, hc0, ec0, hv0⟩, a3, ⟨⟨C, hC, eC⟩, ⟨F0, hF0, eF0⟩⟩, a5⟩ := hK.2.2.1 i hi
      have ec : c0 = kc := (nI_eq (by omega) (by omega)).mp (ec0.symm.trans ekc)
      subst ec
      refine ⟨rfl, fun _ => ?_, hK.thr⟩
      have hcg : ∀ k, k < c0 → (fun q => A 13 (40 * i + q)) k = F 0 i k := fun k hk => a5 k (by omega)
      have hgx : ∀ k, ∃ v, k < c0 → 1 ≤ v ∧ v ≤ 1000 ∧ A 13 (40 * i + k) = nI v := fun k => by
        by_cases z : k < c0
        · obtain ⟨v, h1, h2, h3⟩ := hv0 k z
          exact ⟨v, fun _ => ⟨h1, h2, (hcg k z).trans h3⟩⟩
        · exact ⟨0, fun w => absurd w z⟩
      have hgc := Classical.axiomOfChoice hgx
      obtain ⟨g, hg⟩ := hgc
      rw [ho1, er, er2, ← eBest_congr hcg (c0 - 1) (by omega), best_eq (g := g) hkc hk1 hC hF0 eC eF0 (fun k hk => ⟨(hg k hk).2.1, (hg k hk).2.2⟩) (fun k hk => (hg k hk).1) hm em]
  · rcases h2 with ⟨hd, rfl⟩ | ⟨⟨i2, hi2, ep2, h402⟩, rfl⟩ | ⟨i2, kc2, m, hi2, ep2, hkc2, ekc2, hk12, hm, em, er2, rfl⟩
    · exact ⟨rfl, fun q => absurd q (by decide), hK.thr⟩
    · first | exact (hd ⟨i, hi, ep⟩).elim | exact (hc ⟨i2, hi2, ep2⟩).elim | exact (hne (hl hi hi2 ep ep2 ekc) (b := 0) h402 (by omega) (by omega) (by omega)).elim | exact (hne (hl hi hi2 ep ep2 (kc := 0) h40) ekc2 (by omega) (by omega) (by omega)).elim
    · first | exact (hd ⟨i, hi, ep⟩).elim | exact (hc ⟨i2, hi2, ep2⟩).elim | exact (hne (hl hi hi2 ep ep2 ekc) (b := 0) h402 (by omega) (by omega) (by omega)).elim | exact (hne (hl hi hi2 ep ep2 (kc := 0) h40) ekc2 (by omega) (by omega) (by omega)).elim
  · rcases h2 with ⟨hd, rfl⟩ | ⟨⟨i2, hi2, ep2, h402⟩, rfl⟩ | ⟨i2, kc2, m, hi2, ep2, hkc2, ekc2, hk12, hm, em, er2, rfl⟩
    · first | exact (hd ⟨i, hi, ep⟩).elim | exact (hc ⟨i2, hi2, ep2⟩).elim | exact (hne (hl hi hi2 ep ep2 ekc) (b := 0) h402 (by omega) (by omega) (by omega)).elim | exact (hne (hl hi hi2 ep ep2 (kc := 0) h40) ekc2 (by omega) (by omega) (by omega)).elim
    · exact ⟨rfl, fun q => absurd q (by decide), hK.thr⟩
    · first | exact (hd ⟨i, hi, ep⟩).elim | exact (hc ⟨i2, hi2, ep2⟩).elim | exact (hne (hl hi hi2 ep ep2 ekc) (b := 0) h402 (by omega) (by omega) (by omega)).elim | exact (hne (hl hi hi2 ep ep2 (kc := 0) h40) ekc2 (by omega) (by omega) (by omega)).elim

