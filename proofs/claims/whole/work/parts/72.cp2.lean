set_option maxRecDepth 100000 in
theorem cp_grind {n : Nat} {I : Nat → Nat → Int32} {J : Nat → Nat → Int64} {F : Nat → Nat → Nat → Int32} {si : Nat → Nat} {tc oc : Nat} {A : Nat → Nat → Int32} {B : Nat → Nat → Int64} {S : Nat → Int32} {sd : Int64} (hK : Kp n (I, J, F, si, tc, oc) (A, B, S) sd)  {p0 p1 : Int32} {k : Int32} {o : Int64} {rv : Int32} {x1 : eS} {y1 : mSt} (h1 : R_L_grind I J F si tc oc p0 p1 k o x1) (h2 : R_M_grind A B S sd tc p0 p1 rv y1) : y1.2.2 0 = k ∧ (k = 0 → o = (if rv = 0 then 0 else 1)) ∧ Kp (n + 1) x1 y1 sd := by
  have hb7 : ∀ {i j : Nat} {p : Int32}, i < tc → j < tc → p = nI i → p = nI j → I 7 i = 0 → ¬ A 7 j = 0 → False := fun {i j p} h1 h2 h3 h4 h5 h6 => by
    obtain rfl := nI_in2 (h3.symm.trans h4) h1 h2 (by have := hK.ht; omega)
    exact h6 ((hK.2.2.2.1.2.2 i h1).2.1.2.2.2.1.trans h5)
  have hb8 : ∀ {i j : Nat} {p : Int32}, i < tc → j < tc → p = nI i → p = nI j → ¬ I 7 i = 0 → A 7 j = 0 → False := fun {i j p} h1 h2 h3 h4 h5 h6 => by
    obtain rfl := nI_in2 (h3.symm.trans h4) h1 h2 (by have := hK.ht; omega)
    exact h5 ((hK.2.2.2.1.2.2 i h1).2.1.2.2.2.1.symm.trans h6)
  rcases h1 with ⟨rfl, r9, ho1, ⟨i, hi, ep, hr, hz, hif⟩⟩ | ⟨rfl, hc, rfl⟩ | ⟨rfl, ⟨hp, hc⟩, rfl⟩ | ⟨rfl, ⟨⟨i, hi, ep, hz⟩, hr⟩, rfl⟩
  · rcases h2 with ⟨hd, rfl⟩ | ⟨hp2, hd, rfl⟩ | ⟨⟨i2, hi2, ep2, hz2⟩, hr2, rfl⟩ | ⟨t, hi2, ep2, hr2, hz2, hif2⟩
    · first | exact (hd ⟨i, hi, ep⟩).elim | exact (hr hd).elim | exact (hc hp2).elim | exact (hc ⟨i2, hi2, ep2⟩).elim | exact (hc ⟨t, hi2, ep2⟩).elim | exact (hd hp).elim | exact (hr2 hc).elim | exact (hb7 hi hi2 ep ep2 hz hz2).elim | exact (hb8 hi hi2 ep ep2 hz hz2).elim
    · first | exact (hd ⟨i, hi, ep⟩).elim | exact (hr hd).elim | exact (hc hp2).elim | exact (hc ⟨i2, hi2, ep2⟩).elim | exact (hc ⟨t, hi2, ep2⟩).elim | exact (hd hp).elim | exact (hr2 hc).elim | exact (hb7 hi hi2 ep ep2 hz hz2).elim | exact (hb8 hi hi2 ep ep2 hz hz2).elim
    · first | exact (hd ⟨i, hi, ep⟩).elim | exact (hr hd).elim | exact (hc hp2).elim | exact (hc ⟨i2, hi2, ep2⟩).elim | exact (hc ⟨t, hi2, ep2⟩).elim | exact (hd hp).elim | exact (hr2 hc).elim | exact (hb7 hi hi2 ep ep2 hz hz2).elim | exact (hb8 hi hi2 ep ep2 hz hz2).elim
    · obtain rfl := nI_in2 (ep.symm.trans ep2) hi hi2 (by have := hK.ht; omega)
      obtain ⟨⟨s1, s2⟩, ⟨s3, s4, s5, s6, s7⟩, ⟨⟨u1, hu1, eu1, eu2⟩, ⟨w1, hw1, ew1, ew2⟩⟩, s10, ⟨s11, ⟨v5, hv5, ev5⟩, ⟨v6, hv6, ev6⟩⟩, s12⟩ := hK.2.2.2.1.2.2 i hi
      obtain ⟨h1, h2, h3, ⟨h4, h4b, h5⟩, h6, on, to, h7⟩ := hK.thr (v := 0)
      rw [s3, s4] at hif2
      by_cases q7 : I 5 i - p1 < I 6 i
      · rw [if_pos q7] at hif hif2
        obtain ⟨er, rfl⟩ := hif
        obtain ⟨er2, rfl⟩ := hif2
        refine ⟨rfl, fun _ => by rw [ho1, er, er2], h1, h2, h3, ⟨h4, h4b, fun j hj => ?_⟩, fun j hj h12 => ?_, on, to, h7⟩
        · by_cases q : j = i
          · subst q
            refine ⟨⟨s1, s2⟩, ⟨s3, s4, s5, ?_, s7⟩, ⟨⟨u1, by omega, eu1, eu2⟩, ⟨w1, by omega, ew1, ew2⟩⟩, s10, ⟨s11, ⟨v5, hv5, ev5⟩, ⟨v6, hv6, ev6⟩⟩, s12⟩
            show upd (A 7) j 1 j = up2 I 7 j 1 7 j
            rw [pk_us, up2_self]
          · exact (h5 j hj).congr (fun b => up2_ne _ _ (fun z => q z.2)) (fun _ => rfl) rfl rfl (fun b _ => va_ne (pk_un q)) (fun _ _ => rfl) rfl
        · have q : j ≠ i := by omega
          exact (h6 j hj h12).congr (fun b _ => va_ne (pk_un q)) (fun _ _ => rfl) rfl
      · rw [if_neg q7] at hif hif2
        obtain ⟨er, rfl⟩ := hif
        obtain ⟨er2, rfl⟩ := hif2
        refine ⟨rfl, fun _ => by rw [ho1, er, er2], h1, h2, h3, ⟨h4, h4b, fun j hj => ?_⟩, fun j hj h12 => ?_, on, to, h7⟩
        · by_cases q : j = i
          · subst q
            obtain ⟨o5, ho5, eo5⟩ := nI_of2 (x := p1) (M := 1000000) (n := 1000000) rfl (fun z => hr (Or.inl (lt01 z))) (Int32.not_lt.mp (fun z => hr (Or.inr z)))
            have hle : o5 ≤ v5 := by
              rcases Nat.lt_or_ge v5 o5 with z | z
              · refine absurd ?_ q7
                rw [ev5, ev6, eo5]
                exact Int32.lt_of_lt_of_le (pk_sneg (by omega) z) (nI_pos' (by omega))
              · exact z
            refine ⟨⟨s1, s2⟩, ⟨?_, s4, ?_, s6, s7⟩, ⟨⟨u1, by omega, eu1, eu2⟩, ⟨w1 + 1, by omega, ?_, ?_⟩⟩, s10, ⟨s11, ⟨v5 - o5, by omega, ?_⟩, ⟨v6, hv6, ev6⟩⟩, s12⟩
            · show upd (A 4) j _ j = up2 I 5 j _ 5 j
              rw [pk_us, up2_self]
            · show vp_updL (B 6) j 0 j = up2 J 1 j 0 1 j
              rw [pk_uLs, up2_self]
            · show upd (A 10) j _ j = nI (w1 + 1)
              rw [pk_us, ew1, nI_1]
            · show up2 (up2 J 1 j 0) 3 j _ 3 j = lN (w1 + 1)
              rw [up2_self, ew2, lN_1]
            · show up2 I 5 j _ 5 j = nI (v5 - o5)
              rw [up2_self, ev5, eo5, pk_sub hle]
          · exact (h5 j hj).congr (fun b => up2_ne _ _ (fun z => q z.2)) (fun b => by rw [up2_ne _ _ (fun z => q z.2), up2_ne _ _ (fun z => q z.2)]) rfl rfl (fun b _ => (va_ne (pk_un q)).trans (va_ne (pk_un q))) (fun _ _ => rfl) (by
              show vp_updL (B 6) i 0 j = B 6 j
              rw [pk_uLn q])
        · have q : j ≠ i := by omega
          exact (h6 j hj h12).congr (fun b _ => (va_ne (pk_un q)).trans (va_ne (pk_un q))) (fun _ _ => rfl) (by
            show vp_updL (B 6) i 0 j = B 6 j
            rw [pk_uLn q])
  · rcases h2 with ⟨hd, rfl⟩ | ⟨hp2, hd, rfl⟩ | ⟨⟨i2, hi2, ep2, hz2⟩, hr2, rfl⟩ | ⟨t, hi2, ep2, hr2, hz2, hif2⟩
    · exact ⟨rfl, fun q => absurd q (by decide), hK.thr⟩
    · first | exact (hd ⟨i, hi, ep⟩).elim | exact (hr hd).elim | exact (hc hp2).elim | exact (hc ⟨i2, hi2, ep2⟩).elim | exact (hc ⟨t, hi2, ep2⟩).elim | exact (hd hp).elim | exact (hr2 hc).elim | exact (hb7 hi hi2 ep ep2 hz hz2).elim | exact (hb8 hi hi2 ep ep2 hz hz2).elim
    · first | exact (hd ⟨i, hi, ep⟩).elim | exact (hr hd).elim | exact (hc hp2).elim | exact (hc ⟨i2, hi2, ep2⟩).elim | exact (hc ⟨t, hi2, ep2⟩).elim | exact (hd hp).elim | exact (hr2 hc).elim | exact (hb7 hi hi2 ep ep2 hz hz2).elim | exact (hb8 hi hi2 ep ep2 hz hz2).elim
    · first | exact (hd ⟨i, hi, ep⟩).elim | exact (hr hd).elim | exact (hc hp2).elim | exact (hc ⟨i2, hi2, ep2⟩).elim | exact (hc ⟨t, hi2, ep2⟩).elim | exact (hd hp).elim | exact (hr2 hc).elim | exact (hb7 hi hi2 ep ep2 hz hz2).elim | exact (hb8 hi hi2 ep ep2 hz hz2).elim
  · rcases h2 with ⟨hd, rfl⟩ | ⟨hp2, hd, rfl⟩ | ⟨⟨i2, hi2, ep2, hz2⟩, hr2, rfl⟩ | ⟨t, hi2, ep2, hr2, hz2, hif2⟩
    · first | exact (hd ⟨i, hi, ep⟩).elim | exact (hr hd).elim | exact (hc hp2).elim | exact (hc ⟨i2, hi2, ep2⟩).elim | exact (hc ⟨t, hi2, ep2⟩).elim | exact (hd hp).elim | exact (hr2 hc).elim | exact (hb7 hi hi2 ep ep2 hz hz2).elim | exact (hb8 hi hi2 ep ep2 hz hz2).elim
    · exact ⟨rfl, fun q => absurd q (by decide), hK.thr⟩
    · first | exact (hd ⟨i, hi, ep⟩).elim | exact (hr hd).elim | exact (hc hp2).elim | exact (hc ⟨i2, hi2, ep2⟩).elim | exact (hc ⟨t, hi2, ep2⟩).elim | exact (hd hp).elim | exact (hr2 hc).elim | exact (hb7 hi hi2 ep ep2 hz hz2).elim | exact (hb8 hi hi2 ep ep2 hz hz2).elim
    · first | exact (hd ⟨i, hi, ep⟩).elim | exact (hr hd).elim | exact (hc hp2).elim | exact (hc ⟨i2, hi2, ep2⟩).elim | exact (hc ⟨t, hi2, ep2⟩).elim | exact (hd hp).elim | exact (hr2 hc).elim | exact (hb7 hi hi2 ep ep2 hz hz2).elim | exact (hb8 hi hi2 ep ep2 hz hz2).elim
  · rcases h2 with ⟨hd, rfl⟩ | ⟨hp2, hd, rfl⟩ | ⟨⟨i2, hi2, ep2, hz2⟩, hr2, rfl⟩ | ⟨t, hi2, ep2, hr2, hz2, hif2⟩
    · first | exact (hd ⟨i, hi, ep⟩).elim | exact (hr hd).elim | exact (hc hp2).elim | exact (hc ⟨i2, hi2, ep2⟩).elim | exact (hc ⟨t, hi2, ep2⟩).elim | exact (hd hp).elim | exact (hr2 hc).elim | exact (hb7 hi hi2 ep ep2 hz hz2).elim | exact (hb8 hi hi2 ep ep2 hz hz2).elim
    · first | exact (hd ⟨i, hi, ep⟩).elim | exact (hr hd).elim | exact (hc hp2).elim | exact (hc ⟨i2, hi2, ep2⟩).elim | exact (hc ⟨t, hi2, ep2⟩).elim | exact (hd hp).elim | exact (hr2 hc).elim | exact (hb7 hi hi2 ep ep2 hz hz2).elim | exact (hb8 hi hi2 ep ep2 hz hz2).elim
    · exact ⟨rfl, fun q => absurd q (by decide), hK.thr⟩
    · first | exact (hd ⟨i, hi, ep⟩).elim | exact (hr hd).elim | exact (hc hp2).elim | exact (hc ⟨i2, hi2, ep2⟩).elim | exact (hc ⟨t, hi2, ep2⟩).elim | exact (hd hp).elim | exact (hr2 hc).elim | exact (hb7 hi hi2 ep ep2 hz hz2).elim | exact (hb8 hi hi2 ep ep2 hz hz2).elim

theorem p15 {p : Int32} : (p < 0 ∨ 5 < p) ↔ (p.toInt < 0 ∨ 5 < p.toInt) := by
  rw [Int32.lt_iff_toInt_lt, Int32.lt_iff_toInt_lt]
  rfl
theorem six {p : Int32} {a b c d e f : Prop} (h : (p = 0 ∧ a) ∨ (p = 1 ∧ b) ∨ (p = 2 ∧ c) ∨ (p = 3 ∧ d) ∨ (p = 4 ∧ e) ∨ (p = 5 ∧ f)) : ¬ (p < 0 ∨ 5 < p) := by
  rcases h with ⟨rfl, -⟩ | ⟨rfl, -⟩ | ⟨rfl, -⟩ | ⟨rfl, -⟩ | ⟨rfl, -⟩ | ⟨rfl, -⟩ <;> decide
set_option maxRecDepth 100000 in
theorem cp_about {n : Nat} {I : Nat → Nat → Int32} {J : Nat → Nat → Int64} {F : Nat → Nat → Nat → Int32} {si : Nat → Nat} {tc oc : Nat} {A : Nat → Nat → Int32} {B : Nat → Nat → Int64} {S : Nat → Int32} {sd : Int64} (hK : Kp n (I, J, F, si, tc, oc) (A, B, S) sd) (hn : n ≤ 1000) {p0 p1 : Int32} {k : Int32} {o : Int64} {rv : Int64} {x1 : eS} {y1 : mSt} (h1 : R_L_about I J F si tc oc p0 p1 k o x1) (h2 : R_M_about A B S sd tc si p0 p1 rv y1) : y1.2.2 0 = k ∧ (k = 0 → o = rv) ∧ Kp (n + 1) x1 y1 sd := by
  rcases h1 with ⟨rfl, r9, ho1, ⟨⟨i, hi, ep, hcs⟩, rfl⟩⟩ | ⟨rfl, hc, rfl⟩
  · rcases h2 with ⟨hd, rfl⟩ | ⟨t, hi2, ep2, hcs2, rfl⟩
    · first | exact (hd ⟨⟨i, hi, ep⟩, six hcs⟩).elim | exact (hc ⟨⟨t, hi2, ep2⟩, fun z => six hcs2 (p15.mpr z)⟩).elim
    · obtain rfl := nI_in2 (ep.symm.trans ep2) hi hi2 (by have := hK.ht; omega)
      obtain ⟨⟨s1, s2⟩, ⟨s3, s4, s5, s6, s7⟩, ⟨⟨u1, hu1, eu1, eu2⟩, ⟨w1, hw1, ew1, ew2⟩⟩, s10, ⟨s11, ⟨v5, hv5, ev5⟩, ⟨v6, hv6, ev6⟩⟩, s12⟩ := hK.2.2.2.1.2.2 i hi
      have hlim := hK.2.1.2 _ s1
      refine ⟨rfl, fun _ => ?_, hK.thr⟩
      rw [ho1]
      rcases hcs with ⟨e, er⟩ | ⟨e, er⟩ | ⟨e, er⟩ | ⟨e, er⟩ | ⟨e, er⟩ | ⟨e, er⟩ <;> rcases hcs2 with ⟨e2, er2⟩ | ⟨e2, er2⟩ | ⟨e2, er2⟩ | ⟨e2, er2⟩ | ⟨e2, er2⟩ | ⟨e2, er2⟩ <;> first
        | exact absurd (e.symm.trans e2) (by decide)
        | (rw [er, er2, s5]; done)
        | (rw [er, er2, s3]; done)
        | (rw [er, er2]; done)
        | (rw [er, er2, s6, s7, s5, hlim]; done)
        | (rw [er, er2, eu1, eu2, nI_l (by omega)]; done)
        | (rw [er, er2, ew1, ew2, nI_l (by omega)]; done)
  · rcases h2 with ⟨hd, rfl⟩ | ⟨t, hi2, ep2, hcs2, rfl⟩
    · exact ⟨rfl, fun q => absurd q (by decide), hK.thr⟩
    · first | exact (hd ⟨⟨i, hi, ep⟩, six hcs⟩).elim | exact (hc ⟨⟨t, hi2, ep2⟩, fun z => six hcs2 (p15.mpr z)⟩).elim

theorem eCnt_congr {P Q : Nat → Bool} : ∀ {k : Nat}, (∀ t, t < k → P t = Q t) → eCnt P k = eCnt Q k := by
  intro k
  induction k with
  | zero => intro _; rfl
  | succ k ih =>
    intro h
    show eCnt P k + (if P k = true then 1 else 0) = eCnt Q k + (if Q k = true then 1 else 0)
    rw [ih (fun t ht => h t (by omega)), h k (by omega)]
theorem eCnt_tail {P : Nat → Bool} {m : Nat} : ∀ {k : Nat}, m ≤ k → (∀ t, m ≤ t → t < k → ¬ P t = true) → eCnt P k = eCnt P m := by
  intro k
  induction k with
  | zero => intro h _; rw [show m = 0 by omega]
  | succ k ih =>
    intro h hp
    by_cases q : m = k + 1
    · rw [q]
    · rw [eCnt_neg (hp k (by omega) (by omega))]
      exact ih (by omega) (fun t h1 h2 => hp t h1 (by omega))
theorem sp_eq {n : Nat} {I : Nat → Nat → Int32} {J : Nat → Nat → Int64} {F : Nat → Nat → Nat → Int32} {si : Nat → Nat} {tc oc : Nat} {A : Nat → Nat → Int32} {B : Nat → Nat → Int64} {S : Nat → Int32} {sd : Int64} (hK : Kp n (I, J, F, si, tc, oc) (A, B, S) sd) {q : Int32} {t : Nat} (ht : t < tc) : eSp I J si tc q t = mSp A B q t := by
  obtain ⟨⟨s1, s2⟩, ⟨s3, s4, s5, s6, s7⟩, -⟩ := hK.2.2.2.1.2.2 t ht
  unfold eSp mSp
  rw [s2, s5, s6, s7]
  apply decide_eq_decide.mpr
  constructor
  · rintro ⟨-, h1, h2, h3, h4⟩; exact ⟨h1, h2, h4, h3⟩
  · rintro ⟨h1, h2, h3, h4⟩; exact ⟨ht, h1, h2, h4, h3⟩
set_option maxRecDepth 100000 in
theorem cp_spare {n : Nat} {I : Nat → Nat → Int32} {J : Nat → Nat → Int64} {F : Nat → Nat → Nat → Int32} {si : Nat → Nat} {tc oc : Nat} {A : Nat → Nat → Int32} {B : Nat → Nat → Int64} {S : Nat → Int32} {sd : Int64} (hK : Kp n (I, J, F, si, tc, oc) (A, B, S) sd)  {p0 : Int32} {k : Int32} {o : Int64} {rv : Int32} {x1 : eS} {y1 : mSt} (h1 : R_L_spare I J F si tc oc p0 k o x1) (h2 : R_M_spare A B S sd tc p0 rv y1) : y1.2.2 0 = k ∧ (k = 0 → o = rv.toInt64) ∧ Kp (n + 1) x1 y1 sd := by
  rcases h1 with ⟨rfl, r9, ho1, ⟨⟨i, hi, ep, er⟩, rfl⟩⟩ | ⟨rfl, hc, rfl⟩
  · rcases h2 with ⟨hd, rfl⟩ | ⟨hp2, er2, rfl⟩
    · first | exact (hd ⟨i, hi, ep⟩).elim | exact (hc hp2).elim
    · refine ⟨rfl, fun _ => ?_, hK.thr⟩
      rw [ho1, er, er2, ep, eCnt_tail (m := tc) hK.ht (fun t h1 h2 z => by
        have := (of_decide_eq_true z).1
        omega), eCnt_congr (fun t ht => sp_eq hK ht)]
  · rcases h2 with ⟨hd, rfl⟩ | ⟨hp2, er2, rfl⟩
    · exact ⟨rfl, fun q => absurd q (by decide), hK.thr⟩
    · first | exact (hd ⟨i, hi, ep⟩).elim | exact (hc hp2).elim

theorem eNx_m {P Q : Nat → Bool} {len : Nat → Int32} : ∀ {k : Nat}, (∀ t, t < k → P t = Q t) → (∀ t, t < k → len t ≤ 1000000) → eNx P len k = (mO (mNx Q len k), match mNx Q len k with | none => 1000001 | some t => len t) := by
  intro k
  induction k with
  | zero => intro _ _; rfl
  | succ k ih =>
    intro h hl
    have ih := ih (fun t ht => h t (by omega)) (fun t ht => hl t (by omega))
    have hk := h k (by omega)
    by_cases hp : P k = true
    · have hq : Q k = true := hk ▸ hp
      rcases mNx_or Q len k with z | ⟨t, htk, hpt, z⟩
      · rw [z] at ih
        rw [mNx_n z hq, eNx_pos hp (by
          rw [ih]
          exact Int32.lt_of_le_of_lt (hl k (by omega)) (show (1000000 : Int32) < 1000001 by decide))]
        rfl
      · rw [z] at ih
        by_cases hlt : len k < len t
        · rw [mNx_s z hq hlt, eNx_pos hp (by rw [ih]; exact hlt)]
          rfl
        · rw [mNx_l z hlt, z, eNx_neg (fun w => hlt (by rw [ih] at w; exact w.2)), ih]
    · have hq : ¬ Q k = true := fun w => hp (hk ▸ w)
      rw [mNx_f hq, eNx_neg (fun w => hp w.1), ih]
theorem eNx_tail {P : Nat → Bool} {len : Nat → Int32} {m : Nat} : ∀ {k : Nat}, m ≤ k → (∀ t, m ≤ t → t < k → ¬ P t = true) → eNx P len k = eNx P len m := by
  intro k
  induction k with
  | zero => intro h _; rw [show m = 0 by omega]
  | succ k ih =>
    intro h hp
    by_cases q : m = k + 1
    · rw [q]
    · rw [eNx_neg (fun w => hp k (by omega) (by omega) w.1)]
      exact ih (by omega) (fun t h1 h2 => hp t h1 (by omega))
theorem mNx_len {P : Nat → Bool} {l1 l2 : Nat → Int32} : ∀ {k : Nat}, (∀ t, t < k → l1 t = l2 t) → mNx P l1 k = mNx P l2 k := by
  intro k
  induction k with
  | zero => intro _; rfl
  | succ k ih =>
    intro h
    have ih := ih (fun t ht => h t (by omega))
    by_cases hp : P k = true
    · rcases mNx_or P l1 k with z | ⟨t, htk, hpt, z⟩
      · rw [mNx_n z hp, mNx_n (ih ▸ z) hp]
      · by_cases hlt : l1 k < l1 t
        · rw [mNx_s z hp hlt, mNx_s (ih ▸ z) hp (by rw [← h k (by omega), ← h t (by omega)]; exact hlt)]
        · rw [mNx_l z hlt, mNx_l (ih ▸ z) (by rw [← h k (by omega), ← h t (by omega)]; exact hlt), ih]
    · rw [mNx_f hp, mNx_f hp, ih]
set_option maxRecDepth 100000 in
theorem cp_take {n : Nat} {I : Nat → Nat → Int32} {J : Nat → Nat → Int64} {F : Nat → Nat → Nat → Int32} {si : Nat → Nat} {tc oc : Nat} {A : Nat → Nat → Int32} {B : Nat → Nat → Int64} {S : Nat → Int32} {sd : Int64} (hK : Kp n (I, J, F, si, tc, oc) (A, B, S) sd)  {p0 : Int32} {k : Int32} {o : Int64} {rv : Int32} {x1 : eS} {y1 : mSt} (h1 : R_L_take I J F si tc oc p0 k o x1) (h2 : R_M_take A B S sd tc p0 rv y1) : y1.2.2 0 = k ∧ (k = 0 → o = rv.toInt64) ∧ Kp (n + 1) x1 y1 sd := by
  rcases h1 with ⟨rfl, r9, ho1, ⟨i, hi, ep, er, hx⟩⟩ | ⟨rfl, hc, rfl⟩
  · rcases h2 with ⟨hd, rfl⟩ | ⟨hp2, hy⟩
    · first | exact (hd ⟨i, hi, ep⟩).elim | exact (hc hp2).elim
    · have ht := hK.ht
      have e1 : r9 = mO (mNx (mSp A B p0) (A 4) tc) := by
        rw [er, ep, eNx_tail (m := tc) hK.ht (fun t h1 h2 z => by
          have := (of_decide_eq_true z).1
          omega), eNx_m (Q := mSp A B (nI i)) (fun t ht => sp_eq hK ht) (fun t ht => by
          obtain ⟨v, hv, ev⟩ := (hK.2.2.2.1.2.2 t ht).2.2.2.2.1.2.1
          rw [ev]
          exact nI_le (b := 1000000) hv (by decide))]
        show mO (mNx (mSp A B (nI i)) (I 5) tc) = mO (mNx (mSp A B (nI i)) (A 4) tc)
        rw [mNx_len (fun t ht => (hK.2.2.2.1.2.2 t ht).2.1.1.symm)]
      obtain ⟨h1, h2, h3, ⟨h4, h4b, h5⟩, h6, on, to, h7⟩ := hK.thr (v := 0)
      rcases hy with ⟨hn, er2, rfl⟩ | ⟨t, ht2, hn, er2, rfl⟩
      · rw [hn] at e1
        rcases hx with ⟨-, rfl⟩ | ⟨t3, ht3, e3, rfl⟩
        · exact ⟨rfl, fun _ => by rw [ho1, e1, er2]; rfl, hK.thr⟩
        · exact absurd (e3.symm.trans e1) (nI_nm1 (by omega))
      · rw [hn] at e1
        rcases hx with ⟨e3, rfl⟩ | ⟨t3, ht3, e3, rfl⟩
        · exact absurd (e1.symm.trans e3) (nI_nm1 (by omega))
        · obtain rfl := nI_in2 (e3.symm.trans e1) ht3 ht2 (by omega)
          refine ⟨rfl, fun _ => by rw [ho1, e1, er2]; rfl, h1, h2, h3, ⟨h4, h4b, fun j hj => ?_⟩, fun j hj h12 => ?_, on, to, h7⟩
          · by_cases q : j = t3
            · subst q
              obtain ⟨a1, ⟨a2, a3, a4, a5, a6⟩, a7, a8, ⟨a9, a10⟩, a11⟩ := h5 j hj
              refine ⟨a1, ⟨a2, a3, a4, a5, ?_⟩, a7, a8, ⟨Or.inr ?_, a10⟩, a11⟩
              · show upd (A 8) j 1 j = up2 I 8 j 1 8 j
                rw [pk_us, up2_self]
              · exact up2_self _ _ _ _
            · exact (h5 j hj).congr (fun b => up2_ne _ _ (fun z => q z.2)) (fun _ => rfl) rfl rfl (fun b _ => va_ne (pk_un q)) (fun _ _ => rfl) rfl
          · have q : j ≠ t3 := by omega
            exact (h6 j hj h12).congr (fun b _ => va_ne (pk_un q)) (fun _ _ => rfl) rfl
  · rcases h2 with ⟨hd, rfl⟩ | ⟨hp2, hy⟩
    · exact ⟨rfl, fun q => absurd q (by decide), hK.thr⟩
    · first | exact (hd ⟨i, hi, ep⟩).elim | exact (hc hp2).elim

set_option maxRecDepth 100000 in
theorem cp_bring {n : Nat} {I : Nat → Nat → Int32} {J : Nat → Nat → Int64} {F : Nat → Nat → Nat → Int32} {si : Nat → Nat} {tc oc : Nat} {A : Nat → Nat → Int32} {B : Nat → Nat → Int64} {S : Nat → Int32} {sd : Int64} (hK : Kp n (I, J, F, si, tc, oc) (A, B, S) sd)  {p0 : Int32} {k : Int32} {o : Int64} {rv : Int32} {x1 : eS} {y1 : mSt} (h1 : R_L_bring I J F si tc oc p0 k o x1) (h2 : R_M_bring A B S sd tc p0 rv y1) : y1.2.2 0 = k ∧ (k = 0 → o = (if rv = 0 then 0 else 1)) ∧ Kp (n + 1) x1 y1 sd := by
  rcases h1 with ⟨rfl, r9, ho1, ⟨i, hi, ep, er, rfl⟩⟩ | ⟨rfl, hc, rfl⟩
  · rcases h2 with ⟨hd, rfl⟩ | ⟨t, hi2, ep2, er2, rfl⟩
    · first | exact (hd ⟨i, hi, ep⟩).elim | exact (hc ⟨t, hi2, ep2⟩).elim
    · obtain rfl := nI_in2 (ep.symm.trans ep2) hi hi2 (by have := hK.ht; omega)
      obtain ⟨h1, h2, h3, ⟨h4, h4b, h5⟩, h6, on, to, h7⟩ := hK.thr (v := 0)
      refine ⟨rfl, fun _ => by rw [ho1, er, er2, (h5 i hi).2.1.2.2.2.2], h1, h2, h3, ⟨h4, h4b, fun j hj => ?_⟩, fun j hj h12 => ?_, on, to, h7⟩
      · by_cases q : j = i
        · subst q
          obtain ⟨a1, ⟨a2, a3, a4, a5, a6⟩, a7, a8, ⟨a9, a10⟩, a11⟩ := h5 j hj
          refine ⟨a1, ⟨a2, a3, a4, a5, ?_⟩, a7, a8, ⟨Or.inl ?_, a10⟩, a11⟩
          · show upd (A 8) j 0 j = up2 I 8 j 0 8 j
            rw [pk_us, up2_self]
          · exact up2_self _ _ _ _
        · exact (h5 j hj).congr (fun b => up2_ne _ _ (fun z => q z.2)) (fun _ => rfl) rfl rfl (fun b _ => va_ne (pk_un q)) (fun _ _ => rfl) rfl
      · have q : j ≠ i := by omega
        exact (h6 j hj h12).congr (fun b _ => va_ne (pk_un q)) (fun _ _ => rfl) rfl
  · rcases h2 with ⟨hd, rfl⟩ | ⟨t, hi2, ep2, er2, rfl⟩
    · exact ⟨rfl, fun q => absurd q (by decide), hK.thr⟩
    · first | exact (hd ⟨i, hi, ep⟩).elim | exact (hc ⟨t, hi2, ep2⟩).elim

set_option maxRecDepth 100000 in
theorem cp_life {n : Nat} {I : Nat → Nat → Int32} {J : Nat → Nat → Int64} {F : Nat → Nat → Nat → Int32} {si : Nat → Nat} {tc oc : Nat} {A : Nat → Nat → Int32} {B : Nat → Nat → Int64} {S : Nat → Int32} {sd : Int64} (hK : Kp n (I, J, F, si, tc, oc) (A, B, S) sd)  {p0 p1 : Int32} {k : Int32} {o : Int64} {rv : Int32} {x1 : eS} {y1 : mSt} (h1 : R_L_life I J F si tc oc p0 p1 k o x1) (h2 : R_M_life A B S sd  p0 p1 rv y1) : y1.2.2 0 = k ∧ (k = 0 → o = rv.toInt64) ∧ Kp (n + 1) x1 y1 sd := by
  have hl : ∀ {i j kc : Nat} {p : Int32}, i < 4 → j < 4 → p = nI i → p = nI j → I 2 i = nI kc → A 14 j = nI kc := fun {i j kc p} h1 h2 h3 h4 h5 => by
    obtain rfl := nI_in2 (h3.symm.trans h4) h1 h2 (by decide)
    exact (hK.2.2.1 i h1).1.trans h5
  have hl2 : ∀ {i j kc : Nat} {p : Int32}, i < 4 → j < 4 → p = nI i → p = nI j → A 14 j = nI kc → I 2 i = nI kc := fun {i j kc p} h1 h2 h3 h4 h5 => by
    obtain rfl := nI_in2 (h3.symm.trans h4) h1 h2 (by decide)
    exact (hK.2.2.1 i h1).1.symm.trans h5
  have hne : ∀ {a b : Nat} {v : Int32}, v = nI a → v = nI b → a ≤ 40 → b ≤ 40 → a ≠ b → False := fun {a b v} h1 h2 h3 h4 h5 => h5 ((nI_eq (by omega) (by omega)).mp (h1.symm.trans h2))
  rcases h1 with ⟨rfl, r9, ho1, ⟨i, kc, hi, ep, hr, ekc, hk40, er, rfl⟩⟩ | ⟨rfl, hc, rfl⟩ | ⟨rfl, ⟨hp, hc⟩, rfl⟩ | ⟨rfl, ⟨⟨i, hi, ep, h40⟩, hr⟩, rfl⟩
  · rcases h2 with ⟨hd, rfl⟩ | ⟨hp2, hd, rfl⟩ | ⟨⟨i2, hi2, ep2, h402⟩, hr2, rfl⟩ | ⟨i2, kc2, hi2, ep2, hr2, ekc2, hk2, er2, rfl⟩
    · first | exact (hd ⟨i, hi, ep⟩).elim | exact (hr hd).elim | exact (hc hp2).elim | exact (hc ⟨i2, hi2, ep2⟩).elim | exact (hd hp).elim | exact (hr2 hc).elim | exact (hne (hl hi hi2 ep ep2 ekc) h402 (by omega) (by omega) (by omega)).elim | exact (hne (hl hi hi2 ep ep2 h40) ekc2 (by omega) (by omega) (by omega)).elim
    · first | exact (hd ⟨i, hi, ep⟩).elim | exact (hr hd).elim | exact (hc hp2).elim | exact (hc ⟨i2, hi2, ep2⟩).elim | exact (hd hp).elim | exact (hr2 hc).elim | exact (hne (hl hi hi2 ep ep2 ekc) h402 (by omega) (by omega) (by omega)).elim | exact (hne (hl hi hi2 ep ep2 h40) ekc2 (by omega) (by omega) (by omega)).elim
    · first | exact (hd ⟨i, hi, ep⟩).elim | exact (hr hd).elim | exact (hc hp2).elim | exact (hc ⟨i2, hi2, ep2⟩).elim | exact (hd hp).elim | exact (hr2 hc).elim | exact (hne (hl hi hi2 ep ep2 ekc) h402 (by omega) (by omega) (by omega)).elim | exact (hne (hl hi hi2 ep ep2 h40) ekc2 (by omega) (by omega) (by omega)).elim
    · obtain rfl := nI_in2 (ep.symm.trans ep2) hi hi2 (by decide)
      obtain ⟨h1, h2, h3, h4, h5, h6⟩ := hK.thr (v := 0)
      have ek : kc = kc2 := (nI_eq (by omega) (by omega)).mp ((hl hi hi2 ep ep2 ekc).symm.trans ekc2)
      subst ek
      refine ⟨rfl, fun _ => by rw [ho1, er, er2], h1, h2, fun j hj => ?_, h4, h5, h6⟩
      by_cases q : j = i
      · subst q
        obtain ⟨a1, ⟨c0, hc0, ec0, hv0⟩, a3, a4, a5⟩ := h3 j hj
        have ec : c0 = kc := (nI_eq (by omega) (by omega)).mp (ec0.symm.trans ekc)
        subst ec
        refine ⟨?_, ⟨c0 + 1, by omega, ?_, fun k hk => ?_⟩, a3, a4, fun k hk => ?_⟩
        · show upd (A 14) j _ j = up2 I 2 j _ 2 j
          rw [pk_us, up2_self]
        · exact up2_self _ _ _ _
        · rw [up2_self]
          by_cases z : k = c0
          · rw [z, pk_us]
            obtain ⟨v, hv, ev⟩ := nI_of2 (x := p1) (M := 1000) (n := 1000) rfl (fun z => hr (Or.inl (lt01 z))) (Int32.not_lt.mp (fun z => hr (Or.inr z)))
            exact ⟨v, by
              have : ¬ v = 0 := fun z => hr (Or.inl (by rw [ev, z]; decide))
              omega, hv, ev⟩
          · rw [pk_un z]
            exact hv0 k (by omega)
        · rw [up2_self]
          show upd (A 13) (40 * j + c0) p1 (40 * j + k) = upd (F 0 j) c0 p1 k
          by_cases z : k = c0
          · rw [z, pk_us, pk_us]
          · rw [pk_un z, pk_un (by omega)]
            exact a5 k hk
      · exact (h3 j hj).congr (fun b => up2_ne _ _ (fun z => q z.2)) (up2_ne _ _ (fun z => q z.2)) (by
          show upd (A 14) i _ j = A 14 j
          rw [pk_un q]) (fun k hk => by
          show upd (A 13) (40 * i + kc) p1 (40 * j + k) = A 13 (40 * j + k)
          rw [pk_un (by omega)]) (fun _ => rfl)
  · rcases h2 with ⟨hd, rfl⟩ | ⟨hp2, hd, rfl⟩ | ⟨⟨i2, hi2, ep2, h402⟩, hr2, rfl⟩ | ⟨i2, kc2, hi2, ep2, hr2, ekc2, hk2, er2, rfl⟩
    · exact ⟨rfl, fun q => absurd q (by decide), hK.thr⟩
    · first | exact (hd ⟨i, hi, ep⟩).elim | exact (hr hd).elim | exact (hc hp2).elim | exact (hc ⟨i2, hi2, ep2⟩).elim | exact (hd hp).elim | exact (hr2 hc).elim | exact (hne (hl hi hi2 ep ep2 ekc) h402 (by omega) (by omega) (by omega)).elim | exact (hne (hl hi hi2 ep ep2 h40) ekc2 (by omega) (by omega) (by omega)).elim
    · first | exact (hd ⟨i, hi, ep⟩).elim | exact (hr hd).elim | exact (hc hp2).elim | exact (hc ⟨i2, hi2, ep2⟩).elim | exact (hd hp).elim | exact (hr2 hc).elim | exact (hne (hl hi hi2 ep ep2 ekc) h402 (by omega) (by omega) (by omega)).elim | exact (hne (hl hi hi2 ep ep2 h40) ekc2 (by omega) (by omega) (by omega)).elim
    · first | exact (hd ⟨i, hi, ep⟩).elim | exact (hr hd).elim | exact (hc hp2).elim | exact (hc ⟨i2, hi2, ep2⟩).elim | exact (hd hp).elim | exact (hr2 hc).elim | exact (hne (hl hi hi2 ep ep2 ekc) h402 (by omega) (by omega) (by omega)).elim | exact (hne (hl hi hi2 ep ep2 h40) ekc2 (by omega) (by omega) (by omega)).elim
  · rcases h2 with ⟨hd, rfl⟩ | ⟨hp2, hd, rfl⟩ | ⟨⟨i2, hi2, ep2, h402⟩, hr2, rfl⟩ | ⟨i2, kc2, hi2, ep2, hr2, ekc2, hk2, er2, rfl⟩
    · first | exact (hd ⟨i, hi, ep⟩).elim | exact (hr hd).elim | exact (hc hp2).elim | exact (hc ⟨i2, hi2, ep2⟩).elim | exact (hd hp).elim | exact (hr2 hc).elim | exact (hne (hl hi hi2 ep ep2 ekc) h402 (by omega) (by omega) (by omega)).elim | exact (hne (hl hi hi2 ep ep2 h40) ekc2 (by omega) (by omega) (by omega)).elim
    · exact ⟨rfl, fun q => absurd q (by decide), hK.thr⟩
    · first | exact (hd ⟨i, hi, ep⟩).elim | exact (hr hd).elim | exact (hc hp2).elim | exact (hc ⟨i2, hi2, ep2⟩).elim | exact (hd hp).elim | exact (hr2 hc).elim | exact (hne (hl hi hi2 ep ep2 ekc) h402 (by omega) (by omega) (by omega)).elim | exact (hne (hl hi hi2 ep ep2 h40) ekc2 (by omega) (by omega) (by omega)).elim
    · first | exact (hd ⟨i, hi, ep⟩).elim | exact (hr hd).elim | exact (hc hp2).elim | exact (hc ⟨i2, hi2, ep2⟩).elim | exact (hd hp).elim | exact (hr2 hc).elim | exact (hne (hl hi hi2 ep ep2 ekc) h402 (by omega) (by omega) (by omega)).elim | exact (hne (hl hi hi2 ep ep2 h40) ekc2 (by omega) (by omega) (by omega)).elim
  · rcases h2 with ⟨hd, rfl⟩ | ⟨hp2, hd, rfl⟩ | ⟨⟨i2, hi2, ep2, h402⟩, hr2, rfl⟩ | ⟨i2, kc2, hi2, ep2, hr2, ekc2, hk2, er2, rfl⟩
    · first | exact (hd ⟨i, hi, ep⟩).elim | exact (hr hd).elim | exact (hc hp2).elim | exact (hc ⟨i2, hi2, ep2⟩).elim | exact (hd hp).elim | exact (hr2 hc).elim | exact (hne (hl hi hi2 ep ep2 ekc) h402 (by omega) (by omega) (by omega)).elim | exact (hne (hl hi hi2 ep ep2 h40) ekc2 (by omega) (by omega) (by omega)).elim
    · first | exact (hd ⟨i, hi, ep⟩).elim | exact (hr hd).elim | exact (hc hp2).elim | exact (hc ⟨i2, hi2, ep2⟩).elim | exact (hd hp).elim | exact (hr2 hc).elim | exact (hne (hl hi hi2 ep ep2 ekc) h402 (by omega) (by omega) (by omega)).elim | exact (hne (hl hi hi2 ep ep2 h40) ekc2 (by omega) (by omega) (by omega)).elim
    · exact ⟨rfl, fun q => absurd q (by decide), hK.thr⟩
    · first | exact (hd ⟨i, hi, ep⟩).elim | exact (hr hd).elim | exact (hc hp2).elim | exact (hc ⟨i2, hi2, ep2⟩).elim | exact (hd hp).elim | exact (hr2 hc).elim | exact (hne (hl hi hi2 ep ep2 ekc) h402 (by omega) (by omega) (by omega)).elim | exact (hne (hl hi hi2 ep ep2 h40) ekc2 (by omega) (by omega) (by omega)).elim

set_option maxRecDepth 100000 in
theorem cp_rules {n : Nat} {I : Nat → Nat → Int32} {J : Nat → Nat → Int64} {F : Nat → Nat → Nat → Int32} {si : Nat → Nat} {tc oc : Nat} {A : Nat → Nat → Int32} {B : Nat → Nat → Int64} {S : Nat → Int32} {sd : Int64} (hK : Kp n (I, J, F, si, tc, oc) (A, B, S) sd)  {p0 p1 p2 p3 : Int32} {k : Int32} {x1 : eS} {y1 : mSt} (h1 : R_L_rules I J F si tc oc p0 p1 p2 p3 k x1) (h2 : R_M_rules A B S sd  p0 p1 p2 p3 y1) : y1.2.2 0 = k ∧ Kp (n + 1) x1 y1 sd := by
  rcases h1 with ⟨rfl, ⟨hr, rfl⟩⟩ | ⟨rfl, hc, rfl⟩
  · rcases h2 with ⟨hd, rfl⟩ | ⟨hr2, rfl⟩
    · first | exact (hr hd).elim | exact (hr2 hc).elim
    · obtain ⟨⟨a1, a2, a3, a4, a5, a6⟩, h2, h3, h4, h5, h6⟩ := hK.thr (v := 0)
      refine ⟨rfl, ⟨a1, rfl, rfl, rfl, rfl, ?_⟩, h2, h3, h4, h5, h6⟩
      have z1 : ¬ p1 < 2 := fun z => hr (Or.inr (Or.inr (Or.inr (Or.inr (Or.inr (Or.inr (Or.inl z)))))))
      have z2 : p1 ≤ 12 := Int32.not_lt.mp (fun z => hr (Or.inr (Or.inr (Or.inr (Or.inr (Or.inr (Or.inr (Or.inr z))))))))
      obtain ⟨v, hv, ev⟩ := nI_of2 (x := p1) (M := 12) (n := 12) rfl (fun z => z1 (Int32.lt_trans z (by decide))) z2
      refine ⟨v, ?_, hv, ev⟩
      rcases Nat.lt_or_ge v 2 with z | z
      · exact absurd (by rw [ev]; exact nI_lt (b := 2) z (by decide)) z1
      · exact z
  · rcases h2 with ⟨hd, rfl⟩ | ⟨hr2, rfl⟩
    · exact ⟨rfl, hK.thr⟩
    · first | exact (hr hd).elim | exact (hr2 hc).elim

set_option maxRecDepth 100000 in
theorem cp_breaks {n : Nat} {I : Nat → Nat → Int32} {J : Nat → Nat → Int64} {F : Nat → Nat → Nat → Int32} {si : Nat → Nat} {tc oc : Nat} {A : Nat → Nat → Int32} {B : Nat → Nat → Int64} {S : Nat → Int32} {sd : Int64} (hK : Kp n (I, J, F, si, tc, oc) (A, B, S) sd)  {p0 p1 : Int32} {k : Int32} {o : Int64} {rv : Int32} {x1 : eS} {y1 : mSt} (h1 : R_L_breaks I J F si tc oc p0 p1 k o x1) (h2 : R_M_breaks A B S sd  p0 p1 rv y1) : y1.2.2 0 = k ∧ (k = 0 → o = rv.toInt64) ∧ Kp (n + 1) x1 y1 sd := by
  have hl : ∀ {i j kc : Nat} {p : Int32}, i < 4 → j < 4 → p = nI i → p = nI j → I 2 i = nI kc → A 14 j = nI kc := fun {i j kc p} h1 h2 h3 h4 h5 => by
    obtain rfl := nI_in2 (h3.symm.trans h4) h1 h2 (by decide)
    exact (hK.2.2.1 i h1).1.trans h5
  have hl2 : ∀ {i j kc : Nat} {p : Int32}, i < 4 → j < 4 → p = nI i → p = nI j → A 14 j = nI kc → I 2 i = nI kc := fun {i j kc p} h1 h2 h3 h4 h5 => by
    obtain rfl := nI_in2 (h3.symm.trans h4) h1 h2 (by decide)
    exact (hK.2.2.1 i h1).1.symm.trans h5
  have hne : ∀ {a b : Nat} {v : Int32}, v = nI a → v = nI b → a ≤ 40 → b ≤ 40 → a ≠ b → False := fun {a b v} h1 h2 h3 h4 h5 => h5 ((nI_eq (by omega) (by omega)).mp (h1.symm.trans h2))
  rcases h1 with ⟨rfl, r9, ho1, ⟨⟨i, kc, hi, ep, hkc, ekc, hk1, hr, er⟩, rfl⟩⟩ | ⟨rfl, hc, rfl⟩ | ⟨rfl, ⟨hp, hc⟩, rfl⟩ | ⟨rfl, ⟨⟨i, hi, ep, h40⟩, hr⟩, rfl⟩
  · rcases h2 with ⟨hd, rfl⟩ | ⟨hp2, hd, rfl⟩ | ⟨⟨i2, hi2, ep2, h402⟩, hr2, rfl⟩ | ⟨i2, kc2, hi2, ep2, hkc2, ekc2, hk12, hr2, er2, rfl⟩
    · first | exact (hd ⟨i, hi, ep⟩).elim | exact (hr hd).elim | exact (hc hp2).elim | exact (hc ⟨i2, hi2, ep2⟩).elim | exact (hd hp).elim | exact (hr2 hc).elim | exact (hne (hl hi hi2 ep ep2 ekc) (b := 0) h402 (by omega) (by omega) (by omega)).elim | exact (hne (hl hi hi2 ep ep2 (kc := 0) h40) ekc2 (by omega) (by omega) (by omega)).elim
    · first | exact (hd ⟨i, hi, ep⟩).elim | exact (hr hd).elim | exact (hc hp2).elim | exact (hc ⟨i2, hi2, ep2⟩).elim | exact (hd hp).elim | exact (hr2 hc).elim | exact (hne (hl hi hi2 ep ep2 ekc) (b := 0) h402 (by omega) (by omega) (by omega)).elim | exact (hne (hl hi hi2 ep ep2 (kc := 0) h40) ekc2 (by omega) (by omega) (by omega)).elim
    · first | exact (hd ⟨i, hi, ep⟩).elim | exact (hr hd).elim | exact (hc hp2).elim | exact (hc ⟨i2, hi2, ep2⟩).elim | exact (hd hp).elim | exact (hr2 hc).elim | exact (hne (hl hi hi2 ep ep2 ekc) (b := 0) h402 (by omega) (by omega) (by omega)).elim | exact (hne (hl hi hi2 ep ep2 (kc := 0) h40) ekc2 (by omega) (by omega) (by omega)).elim
    · obtain rfl := nI_in2 (ep.symm.trans ep2) hi hi2 (by decide)
      have ek : kc = kc2 := (nI_eq (by omega) (by omega)).mp ((hl hi hi2 ep ep2 ekc).symm.trans ekc2)
      subst ek
      refine ⟨rfl, fun _ => ?_, hK.thr⟩
      rw [ho1, er, er2, hK.1.1, (hK.2.2.1 i hi).2.2.2.2 _ (Nat.lt_of_lt_of_le (eIx_lt _ hk1) hkc)]
  · rcases h2 with ⟨hd, rfl⟩ | ⟨hp2, hd, rfl⟩ | ⟨⟨i2, hi2, ep2, h402⟩, hr2, rfl⟩ | ⟨i2, kc2, hi2, ep2, hkc2, ekc2, hk12, hr2, er2, rfl⟩
    · exact ⟨rfl, fun q => absurd q (by decide), hK.thr⟩
    · first | exact (hd ⟨i, hi, ep⟩).elim | exact (hr hd).elim | exact (hc hp2).elim | exact (hc ⟨i2, hi2, ep2⟩).elim | exact (hd hp).elim | exact (hr2 hc).elim | exact (hne (hl hi hi2 ep ep2 ekc) (b := 0) h402 (by omega) (by omega) (by omega)).elim | exact (hne (hl hi hi2 ep ep2 (kc := 0) h40) ekc2 (by omega) (by omega) (by omega)).elim
    · first | exact (hd ⟨i, hi, ep⟩).elim | exact (hr hd).elim | exact (hc hp2).elim | exact (hc ⟨i2, hi2, ep2⟩).elim | exact (hd hp).elim | exact (hr2 hc).elim | exact (hne (hl hi hi2 ep ep2 ekc) (b := 0) h402 (by omega) (by omega) (by omega)).elim | exact (hne (hl hi hi2 ep ep2 (kc := 0) h40) ekc2 (by omega) (by omega) (by omega)).elim
    · first | exact (hd ⟨i, hi, ep⟩).elim | exact (hr hd).elim | exact (hc hp2).elim | exact (hc ⟨i2, hi2, ep2⟩).elim | exact (hd hp).elim | exact (hr2 hc).elim | exact (hne (hl hi hi2 ep ep2 ekc) (b := 0) h402 (by omega) (by omega) (by omega)).elim | exact (hne (hl hi hi2 ep ep2 (kc := 0) h40) ekc2 (by omega) (by omega) (by omega)).elim
  · rcases h2 with ⟨hd, rfl⟩ | ⟨hp2, hd, rfl⟩ | ⟨⟨i2, hi2, ep2, h402⟩, hr2, rfl⟩ | ⟨i2, kc2, hi2, ep2, hkc2, ekc2, hk12, hr2, er2, rfl⟩
    · first | exact (hd ⟨i, hi, ep⟩).elim | exact (hr hd).elim | exact (hc hp2).elim | exact (hc ⟨i2, hi2, ep2⟩).elim | exact (hd hp).elim | exact (hr2 hc).elim | exact (hne (hl hi hi2 ep ep2 ekc) (b := 0) h402 (by omega) (by omega) (by omega)).elim | exact (hne (hl hi hi2 ep ep2 (kc := 0) h40) ekc2 (by omega) (by omega) (by omega)).elim
    · exact ⟨rfl, fun q => absurd q (by decide), hK.thr⟩
    · first | exact (hd ⟨i, hi, ep⟩).elim | exact (hr hd).elim | exact (hc hp2).elim | exact (hc ⟨i2, hi2, ep2⟩).elim | exact (hd hp).elim | exact (hr2 hc).elim | exact (hne (hl hi hi2 ep ep2 ekc) (b := 0) h402 (by omega) (by omega) (by omega)).elim | exact (hne (hl hi hi2 ep ep2 (kc := 0) h40) ekc2 (by omega) (by omega) (by omega)).elim
    · first | exact (hd ⟨i, hi, ep⟩).elim | exact (hr hd).elim | exact (hc hp2).elim | exact (hc ⟨i2, hi2, ep2⟩).elim | exact (hd hp).elim | exact (hr2 hc).elim | exact (hne (hl hi hi2 ep ep2 ekc) (b := 0) h402 (by omega) (by omega) (by omega)).elim | exact (hne (hl hi hi2 ep ep2 (kc := 0) h40) ekc2 (by omega) (by omega) (by omega)).elim
  · rcases h2 with ⟨hd, rfl⟩ | ⟨hp2, hd, rfl⟩ | ⟨⟨i2, hi2, ep2, h402⟩, hr2, rfl⟩ | ⟨i2, kc2, hi2, ep2, hkc2, ekc2, hk12, hr2, er2, rfl⟩
    · first | exact (hd ⟨i, hi, ep⟩).elim | exact (hr hd).elim | exact (hc hp2).elim | exact (hc ⟨i2, hi2, ep2⟩).elim | exact (hd hp).elim | exact (hr2 hc).elim | exact (hne (hl hi hi2 ep ep2 ekc) (b := 0) h402 (by omega) (by omega) (by omega)).elim | exact (hne (hl hi hi2 ep ep2 (kc := 0) h40) ekc2 (by omega) (by omega) (by omega)).elim
    · first | exact (hd ⟨i, hi, ep⟩).elim | exact (hr hd).elim | exact (hc hp2).elim | exact (hc ⟨i2, hi2, ep2⟩).elim | exact (hd hp).elim | exact (hr2 hc).elim | exact (hne (hl hi hi2 ep ep2 ekc) (b := 0) h402 (by omega) (by omega) (by omega)).elim | exact (hne (hl hi hi2 ep ep2 (kc := 0) h40) ekc2 (by omega) (by omega) (by omega)).elim
    · exact ⟨rfl, fun q => absurd q (by decide), hK.thr⟩
    · first | exact (hd ⟨i, hi, ep⟩).elim | exact (hr hd).elim | exact (hc hp2).elim | exact (hc ⟨i2, hi2, ep2⟩).elim | exact (hd hp).elim | exact (hr2 hc).elim | exact (hne (hl hi hi2 ep ep2 ekc) (b := 0) h402 (by omega) (by omega) (by omega)).elim | exact (hne (hl hi hi2 ep ep2 (kc := 0) h40) ekc2 (by omega) (by omega) (by omega)).elim

theorem eMax_congr {f g : Nat → Int32} : ∀ {c : Nat}, (∀ k, k < c → f k = g k) → eMax f c = eMax g c := by
  intro c
  induction c with
  | zero => intro _; rfl
  | succ c ih =>
    intro h
    show (if eMax f c < f c then f c else eMax f c) = (if eMax g c < g c then g c else eMax g c)
    rw [ih (fun k hk => h k (by omega)), h c (by omega)]
theorem eCost_congr {f g : Nat → Int32} {ch fa p : Int32} : ∀ {c : Nat}, (∀ k, k < c → f k = g k) → eCost f ch fa p c = eCost g ch fa p c := by
  intro c
  induction c with
  | zero => intro _; rfl
  | succ c ih =>
    intro h
    show eCost f ch fa p c + (if f c < p then fa.toInt64 else ch.toInt64) = eCost g ch fa p c + (if g c < p then fa.toInt64 else ch.toInt64)
    rw [ih (fun k hk => h k (by omega)), h c (by omega)]
theorem eUses_congr {f g : Nat → Int32} {p : Int32} : ∀ {c : Nat}, (∀ k, k < c → f k = g k) → eUses f p c = eUses g p c := by
  intro c
  induction c with
  | zero => intro _; rfl
  | succ c ih =>
    intro h
    show eUses f p c + (if p < f c then p else f c).toInt64 = eUses g p c + (if p < g c then p else g c).toInt64
    rw [ih (fun k hk => h k (by omega)), h c (by omega)]
set_option maxRecDepth 100000 in
theorem cp_changed {n : Nat} {I : Nat → Nat → Int32} {J : Nat → Nat → Int64} {F : Nat → Nat → Nat → Int32} {si : Nat → Nat} {tc oc : Nat} {A : Nat → Nat → Int32} {B : Nat → Nat → Int64} {S : Nat → Int32} {sd : Int64} (hK : Kp n (I, J, F, si, tc, oc) (A, B, S) sd)  {p0 p1 p2 : Int32} {k : Int32} {o : Int64} {rv : Int64} {x1 : eS} {y1 : mSt} (h1 : R_L_changed I J F si tc oc p0 p1 p2 k o x1) (h2 : R_M_changed A B S sd (I 3) (I 4) p0 p1 p2 rv y1) : y1.2.2 0 = k ∧ (k = 0 → o = rv) ∧ Kp (n + 1) x1 y1 sd := by
  have hl : ∀ {i j kc : Nat} {p : Int32}, i < 4 → j < 4 → p = nI i → p = nI j → I 2 i = nI kc → A 14 j = nI kc := fun {i j kc p} h1 h2 h3 h4 h5 => by
    obtain rfl := nI_in2 (h3.symm.trans h4) h1 h2 (by decide)
    exact (hK.2.2.1 i h1).1.trans h5
  have hl2 : ∀ {i j kc : Nat} {p : Int32}, i < 4 → j < 4 → p = nI i → p = nI j → A 14 j = nI kc → I 2 i = nI kc := fun {i j kc p} h1 h2 h3 h4 h5 => by
    obtain rfl := nI_in2 (h3.symm.trans h4) h1 h2 (by decide)
    exact (hK.2.2.1 i h1).1.symm.trans h5
  have hne : ∀ {a b : Nat} {v : Int32}, v = nI a → v = nI b → a ≤ 40 → b ≤ 40 → a ≠ b → False := fun {a b v} h1 h2 h3 h4 h5 => h5 ((nI_eq (by omega) (by omega)).mp (h1.symm.trans h2))
  have hmx : ∀ {i j a b : Nat} {p : Int32}, i < 4 → j < 4 → p = nI i → p = nI j → a ≤ 40 → b ≤ 40 → I 2 i = nI a → A 14 j = nI b → i = j ∧ a = b ∧ eMax (fun q => A 13 (40 * j + q)) b = eMax (F 0 i) a := fun {i j a b p} h1 h2 h3 h4 ha hb h5 h6 => by
    obtain rfl := nI_in2 (h3.symm.trans h4) h1 h2 (by decide)
    have e1 : a = b := (nI_eq (by omega) (by omega)).mp (h5.symm.trans ((hK.2.2.1 i h1).1.symm.trans h6))
    subst e1
    exact ⟨rfl, rfl, eMax_congr (fun k hk => (hK.2.2.1 i h1).2.2.2.2 k (by omega))⟩
  rcases h1 with ⟨rfl, r9, ho1, ⟨⟨i, kc, hi, ep, hkc, ekc, hpb, hr, hle, er⟩, rfl⟩⟩ | ⟨rfl, hc, rfl⟩ | ⟨rfl, ⟨hp, hc⟩, rfl⟩ | ⟨rfl, ⟨hpb, hr, i, kc, hi, ep, hkc, ekc, hlt⟩, rfl⟩
  · rcases h2 with ⟨hd, rfl⟩ | ⟨hp2, hd, rfl⟩ | ⟨⟨hpb2, hr2, i2, kc2, hi2, ep2, hkc2, ekc2, hlt2⟩, rfl⟩ | ⟨i2, kc2, hi2, ep2, hkc2, ekc2, hpb2, hr2, hle2, er2, rfl⟩
    · first | exact (hd ⟨⟨i, hi, ep⟩, hpb⟩).elim | exact (hr hd).elim | exact (hc hp2).elim | exact (hc ⟨⟨i2, hi2, ep2⟩, hpb2⟩).elim | exact (hd hp).elim | exact (hr2 hc).elim | exact (Int32.not_lt.mpr ((hmx hi hi2 ep ep2 hkc hkc2 ekc ekc2).2.2 ▸ hle) hlt2).elim | exact (Int32.not_lt.mpr hle2 ((hmx hi hi2 ep ep2 hkc hkc2 ekc ekc2).2.2 ▸ hlt)).elim
    · first | exact (hd ⟨⟨i, hi, ep⟩, hpb⟩).elim | exact (hr hd).elim | exact (hc hp2).elim | exact (hc ⟨⟨i2, hi2, ep2⟩, hpb2⟩).elim | exact (hd hp).elim | exact (hr2 hc).elim | exact (Int32.not_lt.mpr ((hmx hi hi2 ep ep2 hkc hkc2 ekc ekc2).2.2 ▸ hle) hlt2).elim | exact (Int32.not_lt.mpr hle2 ((hmx hi hi2 ep ep2 hkc hkc2 ekc ekc2).2.2 ▸ hlt)).elim
    · first | exact (hd ⟨⟨i, hi, ep⟩, hpb⟩).elim | exact (hr hd).elim | exact (hc hp2).elim | exact (hc ⟨⟨i2, hi2, ep2⟩, hpb2⟩).elim | exact (hd hp).elim | exact (hr2 hc).elim | exact (Int32.not_lt.mpr ((hmx hi hi2 ep ep2 hkc hkc2 ekc ekc2).2.2 ▸ hle) hlt2).elim | exact (Int32.not_lt.mpr hle2 ((hmx hi hi2 ep ep2 hkc hkc2 ekc ekc2).2.2 ▸ hlt)).elim
    · obtain ⟨e1, e2, -⟩ := hmx hi hi2 ep ep2 hkc hkc2 ekc ekc2
      subst e1; subst e2
      have hcg : ∀ k, k < kc → (fun q => A 13 (40 * i + q)) k = F 0 i k := fun k hk => (hK.2.2.1 i hi).2.2.2.2 k (by omega)
      refine ⟨rfl, fun _ => ?_, hK.thr⟩
      rw [ho1, er, er2, eCost_congr hcg, eUses_congr hcg]
  · rcases h2 with ⟨hd, rfl⟩ | ⟨hp2, hd, rfl⟩ | ⟨⟨hpb2, hr2, i2, kc2, hi2, ep2, hkc2, ekc2, hlt2⟩, rfl⟩ | ⟨i2, kc2, hi2, ep2, hkc2, ekc2, hpb2, hr2, hle2, er2, rfl⟩
    · exact ⟨rfl, fun q => absurd q (by decide), hK.thr⟩
    · first | exact (hd ⟨⟨i, hi, ep⟩, hpb⟩).elim | exact (hr hd).elim | exact (hc hp2).elim | exact (hc ⟨⟨i2, hi2, ep2⟩, hpb2⟩).elim | exact (hd hp).elim | exact (hr2 hc).elim | exact (Int32.not_lt.mpr ((hmx hi hi2 ep ep2 hkc hkc2 ekc ekc2).2.2 ▸ hle) hlt2).elim | exact (Int32.not_lt.mpr hle2 ((hmx hi hi2 ep ep2 hkc hkc2 ekc ekc2).2.2 ▸ hlt)).elim
    · first | exact (hd ⟨⟨i, hi, ep⟩, hpb⟩).elim | exact (hr hd).elim | exact (hc hp2).elim | exact (hc ⟨⟨i2, hi2, ep2⟩, hpb2⟩).elim | exact (hd hp).elim | exact (hr2 hc).elim | exact (Int32.not_lt.mpr ((hmx hi hi2 ep ep2 hkc hkc2 ekc ekc2).2.2 ▸ hle) hlt2).elim | exact (Int32.not_lt.mpr hle2 ((hmx hi hi2 ep ep2 hkc hkc2 ekc ekc2).2.2 ▸ hlt)).elim
    · first | exact (hd ⟨⟨i, hi, ep⟩, hpb⟩).elim | exact (hr hd).elim | exact (hc hp2).elim | exact (hc ⟨⟨i2, hi2, ep2⟩, hpb2⟩).elim | exact (hd hp).elim | exact (hr2 hc).elim | exact (Int32.not_lt.mpr ((hmx hi hi2 ep ep2 hkc hkc2 ekc ekc2).2.2 ▸ hle) hlt2).elim | exact (Int32.not_lt.mpr hle2 ((hmx hi hi2 ep ep2 hkc hkc2 ekc ekc2).2.2 ▸ hlt)).elim
  · rcases h2 with ⟨hd, rfl⟩ | ⟨hp2, hd, rfl⟩ | ⟨⟨hpb2, hr2, i2, kc2, hi2, ep2, hkc2, ekc2, hlt2⟩, rfl⟩ | ⟨i2, kc2, hi2, ep2, hkc2, ekc2, hpb2, hr2, hle2, er2, rfl⟩
    · first | exact (hd ⟨⟨i, hi, ep⟩, hpb⟩).elim | exact (hr hd).elim | exact (hc hp2).elim | exact (hc ⟨⟨i2, hi2, ep2⟩, hpb2⟩).elim | exact (hd hp).elim | exact (hr2 hc).elim | exact (Int32.not_lt.mpr ((hmx hi hi2 ep ep2 hkc hkc2 ekc ekc2).2.2 ▸ hle) hlt2).elim | exact (Int32.not_lt.mpr hle2 ((hmx hi hi2 ep ep2 hkc hkc2 ekc ekc2).2.2 ▸ hlt)).elim
    · exact ⟨rfl, fun q => absurd q (by decide), hK.thr⟩
    · first | exact (hd ⟨⟨i, hi, ep⟩, hpb⟩).elim | exact (hr hd).elim | exact (hc hp2).elim | exact (hc ⟨⟨i2, hi2, ep2⟩, hpb2⟩).elim | exact (hd hp).elim | exact (hr2 hc).elim | exact (Int32.not_lt.mpr ((hmx hi hi2 ep ep2 hkc hkc2 ekc ekc2).2.2 ▸ hle) hlt2).elim | exact (Int32.not_lt.mpr hle2 ((hmx hi hi2 ep ep2 hkc hkc2 ekc ekc2).2.2 ▸ hlt)).elim
    · first | exact (hd ⟨⟨i, hi, ep⟩, hpb⟩).elim | exact (hr hd).elim | exact (hc hp2).elim | exact (hc ⟨⟨i2, hi2, ep2⟩, hpb2⟩).elim | exact (hd hp).elim | exact (hr2 hc).elim | exact (Int32.not_lt.mpr ((hmx hi hi2 ep ep2 hkc hkc2 ekc ekc2).2.2 ▸ hle) hlt2).elim | exact (Int32.not_lt.mpr hle2 ((hmx hi hi2 ep ep2 hkc hkc2 ekc ekc2).2.2 ▸ hlt)).elim
  · rcases h2 with ⟨hd, rfl⟩ | ⟨hp2, hd, rfl⟩ | ⟨⟨hpb2, hr2, i2, kc2, hi2, ep2, hkc2, ekc2, hlt2⟩, rfl⟩ | ⟨i2, kc2, hi2, ep2, hkc2, ekc2, hpb2, hr2, hle2, er2, rfl⟩
    · first | exact (hd ⟨⟨i, hi, ep⟩, hpb⟩).elim | exact (hr hd).elim | exact (hc hp2).elim | exact (hc ⟨⟨i2, hi2, ep2⟩, hpb2⟩).elim | exact (hd hp).elim | exact (hr2 hc).elim | exact (Int32.not_lt.mpr ((hmx hi hi2 ep ep2 hkc hkc2 ekc ekc2).2.2 ▸ hle) hlt2).elim | exact (Int32.not_lt.mpr hle2 ((hmx hi hi2 ep ep2 hkc hkc2 ekc ekc2).2.2 ▸ hlt)).elim
    · first | exact (hd ⟨⟨i, hi, ep⟩, hpb⟩).elim | exact (hr hd).elim | exact (hc hp2).elim | exact (hc ⟨⟨i2, hi2, ep2⟩, hpb2⟩).elim | exact (hd hp).elim | exact (hr2 hc).elim | exact (Int32.not_lt.mpr ((hmx hi hi2 ep ep2 hkc hkc2 ekc ekc2).2.2 ▸ hle) hlt2).elim | exact (Int32.not_lt.mpr hle2 ((hmx hi hi2 ep ep2 hkc hkc2 ekc ekc2).2.2 ▸ hlt)).elim
    · exact ⟨rfl, fun q => absurd q (by decide), hK.thr⟩
    · first | exact (hd ⟨⟨i, hi, ep⟩, hpb⟩).elim | exact (hr hd).elim | exact (hc hp2).elim | exact (hc ⟨⟨i2, hi2, ep2⟩, hpb2⟩).elim | exact (hd hp).elim | exact (hr2 hc).elim | exact (Int32.not_lt.mpr ((hmx hi hi2 ep ep2 hkc hkc2 ekc ekc2).2.2 ▸ hle) hlt2).elim | exact (Int32.not_lt.mpr hle2 ((hmx hi hi2 ep ep2 hkc hkc2 ekc ekc2).2.2 ▸ hlt)).elim

