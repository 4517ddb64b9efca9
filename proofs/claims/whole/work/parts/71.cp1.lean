theorem lt_of3 {a b c : Int32} (h1 : a ≤ b) (h2 : b < c) : a < c := Int32.lt_of_le_of_lt h1 h2
theorem va_ne {α : Type} {A : Nat → Nat → α} {r b j : Nat} {f : Nat → α} (h : f j = A r j) : va_up A r f b j = A b j := by
  by_cases q : b = r
  · rw [q, va_up_self]; exact h
  · rw [va_up_ne _ _ q]
theorem lN0 : (0 : Int64) = lN 0 := rfl
set_option maxRecDepth 100000 in
theorem cp_rate {n : Nat} {I : Nat → Nat → Int32} {J : Nat → Nat → Int64} {F : Nat → Nat → Nat → Int32} {si : Nat → Nat} {tc oc : Nat} {A : Nat → Nat → Int32} {B : Nat → Nat → Int64} {S : Nat → Int32} {sd : Int64} (hK : Kp n (I, J, F, si, tc, oc) (A, B, S) sd)  {p0 p1 p2 : Int32} {k : Int32} {x1 : eS} {y1 : mSt} (h1 : R_L_rate I J F si tc oc p0 p1 p2 k x1) (h2 : R_M_rate A B S sd  p0 p1 p2 y1) : y1.2.2 0 = k ∧ Kp (n + 1) x1 y1 sd := by
  rcases h1 with ⟨rfl, ⟨a, b, ha, hb, ea, eb, hr, rfl⟩⟩ | ⟨rfl, hc, rfl⟩ | ⟨rfl, ⟨hp, hc⟩, rfl⟩
  · rcases h2 with ⟨hd, rfl⟩ | ⟨hp2, hd, rfl⟩ | ⟨a2, b2, ha2, hb2, ea2, eb2, hr2, rfl⟩
    · first | exact (hd ⟨⟨a, ha, ea⟩, ⟨b, hb, eb⟩⟩).elim | exact (hr hd).elim | exact (hc hp2).elim | exact (hc ⟨⟨a2, ha2, ea2⟩, ⟨b2, hb2, eb2⟩⟩).elim | exact (hd hp).elim | exact (hr2 hc).elim
    · first | exact (hd ⟨⟨a, ha, ea⟩, ⟨b, hb, eb⟩⟩).elim | exact (hr hd).elim | exact (hc hp2).elim | exact (hc ⟨⟨a2, ha2, ea2⟩, ⟨b2, hb2, eb2⟩⟩).elim | exact (hd hp).elim | exact (hr2 hc).elim
    · obtain rfl := nI_in2 (ea.symm.trans ea2) ha ha2 (by decide)
      obtain rfl := nI_in2 (eb.symm.trans eb2) hb hb2 (by decide)
      obtain ⟨h1, ⟨h2a, h2b⟩, h3, h4, h5, h6⟩ := hK.thr (v := 0)
      refine ⟨rfl, h1, ⟨fun k hk => ?_, h2b⟩, h3, h4, h5, h6⟩
      by_cases q : k = 4 * a + b
      · rw [q, va_up_self, pk_uLs, up2_self]
      · rw [va_up_self, pk_uLn q, up2_ne _ _ (fun z => q z.2)]
        exact h2a k hk
  · rcases h2 with ⟨hd, rfl⟩ | ⟨hp2, hd, rfl⟩ | ⟨a2, b2, ha2, hb2, ea2, eb2, hr2, rfl⟩
    · exact ⟨rfl, hK.thr⟩
    · first | exact (hd ⟨⟨a, ha, ea⟩, ⟨b, hb, eb⟩⟩).elim | exact (hr hd).elim | exact (hc hp2).elim | exact (hc ⟨⟨a2, ha2, ea2⟩, ⟨b2, hb2, eb2⟩⟩).elim | exact (hd hp).elim | exact (hr2 hc).elim
    · first | exact (hd ⟨⟨a, ha, ea⟩, ⟨b, hb, eb⟩⟩).elim | exact (hr hd).elim | exact (hc hp2).elim | exact (hc ⟨⟨a2, ha2, ea2⟩, ⟨b2, hb2, eb2⟩⟩).elim | exact (hd hp).elim | exact (hr2 hc).elim
  · rcases h2 with ⟨hd, rfl⟩ | ⟨hp2, hd, rfl⟩ | ⟨a2, b2, ha2, hb2, ea2, eb2, hr2, rfl⟩
    · first | exact (hd ⟨⟨a, ha, ea⟩, ⟨b, hb, eb⟩⟩).elim | exact (hr hd).elim | exact (hc hp2).elim | exact (hc ⟨⟨a2, ha2, ea2⟩, ⟨b2, hb2, eb2⟩⟩).elim | exact (hd hp).elim | exact (hr2 hc).elim
    · exact ⟨rfl, hK.thr⟩
    · first | exact (hd ⟨⟨a, ha, ea⟩, ⟨b, hb, eb⟩⟩).elim | exact (hr hd).elim | exact (hc hp2).elim | exact (hc ⟨⟨a2, ha2, ea2⟩, ⟨b2, hb2, eb2⟩⟩).elim | exact (hd hp).elim | exact (hr2 hc).elim

set_option maxRecDepth 100000 in
theorem cp_limit {n : Nat} {I : Nat → Nat → Int32} {J : Nat → Nat → Int64} {F : Nat → Nat → Nat → Int32} {si : Nat → Nat} {tc oc : Nat} {A : Nat → Nat → Int32} {B : Nat → Nat → Int64} {S : Nat → Int32} {sd : Int64} (hK : Kp n (I, J, F, si, tc, oc) (A, B, S) sd)  {p0 : Int32} {p1 : Int64} {k : Int32} {x1 : eS} {y1 : mSt} (h1 : R_L_limit I J F si tc oc p0 p1 k x1) (h2 : R_M_limit A B S sd  p0 p1 y1) : y1.2.2 0 = k ∧ Kp (n + 1) x1 y1 sd := by
  rcases h1 with ⟨rfl, ⟨i, hi, ep, hr, rfl⟩⟩ | ⟨rfl, hc, rfl⟩ | ⟨rfl, ⟨hp, hc⟩, rfl⟩
  · rcases h2 with ⟨hd, rfl⟩ | ⟨hp2, hd, rfl⟩ | ⟨i2, hi2, ep2, hr2, rfl⟩
    · first | exact (hd ⟨i, hi, ep⟩).elim | exact (hr hd).elim | exact (hc hp2).elim | exact (hc ⟨i2, hi2, ep2⟩).elim | exact (hd hp).elim | exact (hr2 hc).elim
    · first | exact (hd ⟨i, hi, ep⟩).elim | exact (hr hd).elim | exact (hc hp2).elim | exact (hc ⟨i2, hi2, ep2⟩).elim | exact (hd hp).elim | exact (hr2 hc).elim
    · obtain rfl := nI_in2 (ep.symm.trans ep2) hi hi2 (by decide)
      obtain ⟨h1, ⟨h2a, h2b⟩, h3, h4, h5, h6⟩ := hK.thr (v := 0)
      refine ⟨rfl, h1, ⟨h2a, fun k hk => ?_⟩, h3, h4, h5, h6⟩
      by_cases q : k = i
      · rw [q, va_up_self, pk_uLs, up2_self]
      · rw [va_up_self, pk_uLn q, up2_ne _ _ (fun z => q z.2)]
        exact h2b k hk
  · rcases h2 with ⟨hd, rfl⟩ | ⟨hp2, hd, rfl⟩ | ⟨i2, hi2, ep2, hr2, rfl⟩
    · exact ⟨rfl, hK.thr⟩
    · first | exact (hd ⟨i, hi, ep⟩).elim | exact (hr hd).elim | exact (hc hp2).elim | exact (hc ⟨i2, hi2, ep2⟩).elim | exact (hd hp).elim | exact (hr2 hc).elim
    · first | exact (hd ⟨i, hi, ep⟩).elim | exact (hr hd).elim | exact (hc hp2).elim | exact (hc ⟨i2, hi2, ep2⟩).elim | exact (hd hp).elim | exact (hr2 hc).elim
  · rcases h2 with ⟨hd, rfl⟩ | ⟨hp2, hd, rfl⟩ | ⟨i2, hi2, ep2, hr2, rfl⟩
    · first | exact (hd ⟨i, hi, ep⟩).elim | exact (hr hd).elim | exact (hc hp2).elim | exact (hc ⟨i2, hi2, ep2⟩).elim | exact (hd hp).elim | exact (hr2 hc).elim
    · exact ⟨rfl, hK.thr⟩
    · first | exact (hd ⟨i, hi, ep⟩).elim | exact (hr hd).elim | exact (hc hp2).elim | exact (hc ⟨i2, hi2, ep2⟩).elim | exact (hd hp).elim | exact (hr2 hc).elim

set_option maxRecDepth 100000 in
theorem cp_cost {n : Nat} {I : Nat → Nat → Int32} {J : Nat → Nat → Int64} {F : Nat → Nat → Nat → Int32} {si : Nat → Nat} {tc oc : Nat} {A : Nat → Nat → Int32} {B : Nat → Nat → Int64} {S : Nat → Int32} {sd : Int64} (hK : Kp n (I, J, F, si, tc, oc) (A, B, S) sd)  {p0 p1 p2 : Int32} {k : Int32} {x1 : eS} {y1 : mSt} (h1 : R_L_cost I J F si tc oc p0 p1 p2 k x1) (h2 : R_M_cost A B S sd  p0 p1 p2 y1) : y1.2.2 0 = k ∧ Kp (n + 1) x1 y1 sd := by
  rcases h1 with ⟨rfl, ⟨i, hi, ep, hr, rfl⟩⟩ | ⟨rfl, hc, rfl⟩ | ⟨rfl, ⟨hp, hc⟩, rfl⟩
  · rcases h2 with ⟨hd, rfl⟩ | ⟨hp2, hd, rfl⟩ | ⟨i2, hi2, ep2, hr2, rfl⟩
    · first | exact (hd ⟨i, hi, ep⟩).elim | exact (hr hd).elim | exact (hc hp2).elim | exact (hc ⟨i2, hi2, ep2⟩).elim | exact (hd hp).elim | exact (hr2 hc).elim
    · first | exact (hd ⟨i, hi, ep⟩).elim | exact (hr hd).elim | exact (hc hp2).elim | exact (hc ⟨i2, hi2, ep2⟩).elim | exact (hd hp).elim | exact (hr2 hc).elim
    · obtain rfl := nI_in2 (ep.symm.trans ep2) hi hi2 (by decide)
      obtain ⟨h1, h2, h3, h4, h5, h6⟩ := hK.thr (v := 0)
      refine ⟨rfl, h1, h2, fun j hj => ?_, h4, h5, h6⟩
      by_cases q : j = i
      · obtain ⟨a1, a2, a3, a4, a5⟩ := h3 j hj
        rw [q] at a1 a2 a5 ⊢
        refine ⟨a1, a2, ⟨?_, ?_⟩, ⟨?_, ?_⟩, a5⟩
        · show vp_updL (B 15) i p1.toInt64 i = (up2 I 3 i p1 3 i).toInt64
          rw [pk_uLs, up2_self]
        · show vp_updL (B 16) i p2.toInt64 i = (up2 (up2 I 3 i p1) 4 i p2 4 i).toInt64
          rw [pk_uLs, up2_self]
        · show ∃ v, v ≤ 1000000 ∧ up2 I 3 i p1 3 i = nI v
          rw [up2_self]
          exact nI_of2 (M := 1000000) rfl (fun z => hr (Or.inl z)) (Int32.not_lt.mp (fun z => hr (Or.inr (Or.inl z))))
        · show ∃ v, v ≤ 1000000 ∧ up2 (up2 I 3 i p1) 4 i p2 4 i = nI v
          rw [up2_self]
          exact nI_of2 (M := 1000000) rfl (fun z => hr (Or.inr (Or.inr (Or.inl z)))) (Int32.not_lt.mp (fun z => hr (Or.inr (Or.inr (Or.inr z)))))
      · exact (h3 j hj).congr (fun b => by rw [up2_ne _ _ (fun z => q z.2), up2_ne _ _ (fun z => q z.2)]) rfl rfl (fun _ _ => rfl) (fun b => (va_ne (pk_uLn q)).trans (va_ne (pk_uLn q)))
  · rcases h2 with ⟨hd, rfl⟩ | ⟨hp2, hd, rfl⟩ | ⟨i2, hi2, ep2, hr2, rfl⟩
    · exact ⟨rfl, hK.thr⟩
    · first | exact (hd ⟨i, hi, ep⟩).elim | exact (hr hd).elim | exact (hc hp2).elim | exact (hc ⟨i2, hi2, ep2⟩).elim | exact (hd hp).elim | exact (hr2 hc).elim
    · first | exact (hd ⟨i, hi, ep⟩).elim | exact (hr hd).elim | exact (hc hp2).elim | exact (hc ⟨i2, hi2, ep2⟩).elim | exact (hd hp).elim | exact (hr2 hc).elim
  · rcases h2 with ⟨hd, rfl⟩ | ⟨hp2, hd, rfl⟩ | ⟨i2, hi2, ep2, hr2, rfl⟩
    · first | exact (hd ⟨i, hi, ep⟩).elim | exact (hr hd).elim | exact (hc hp2).elim | exact (hc ⟨i2, hi2, ep2⟩).elim | exact (hd hp).elim | exact (hr2 hc).elim
    · exact ⟨rfl, hK.thr⟩
    · first | exact (hd ⟨i, hi, ep⟩).elim | exact (hr hd).elim | exact (hc hp2).elim | exact (hc ⟨i2, hi2, ep2⟩).elim | exact (hd hp).elim | exact (hr2 hc).elim

set_option maxRecDepth 100000 in
theorem cp_tool {n : Nat} {I : Nat → Nat → Int32} {J : Nat → Nat → Int64} {F : Nat → Nat → Nat → Int32} {si : Nat → Nat} {tc oc : Nat} {A : Nat → Nat → Int32} {B : Nat → Nat → Int64} {S : Nat → Int32} {sd : Int64} (hK : Kp n (I, J, F, si, tc, oc) (A, B, S) sd)  {p0 p1 p2 : Int32} {k : Int32} {o : Int64} {rv : Int32} {x1 : eS} {y1 : mSt} (h1 : R_L_tool I J F si tc oc p0 p1 p2 k o x1) (h2 : R_M_tool A B S sd tc p0 p1 p2 rv y1) : y1.2.2 0 = k ∧ (k = 0 → o = rv.toInt64) ∧ Kp (n + 1) x1 y1 sd := by
  rcases h1 with ⟨rfl, r9, ho1, ⟨i, hi, ep, hr, ht12, er, q0, q1, q2, rfl⟩⟩ | ⟨rfl, hc, rfl⟩ | ⟨rfl, ⟨hp, hc⟩, rfl⟩ | ⟨rfl, ⟨hp, hr, hc⟩, rfl⟩
  · rcases h2 with ⟨hd, rfl⟩ | ⟨hp2, hd, rfl⟩ | ⟨hp2, hr2, hd, rfl⟩ | ⟨hp2, hr2, ht2, er2, rfl⟩
    · first | exact (hd ⟨i, hi, ep⟩).elim | exact (hr hd).elim | exact (Nat.ne_of_lt ht12 hd).elim | exact (hc hp2).elim | exact (hd hp).elim | exact (hr2 hc).elim | exact (Nat.ne_of_lt ht2 hc).elim
    · first | exact (hd ⟨i, hi, ep⟩).elim | exact (hr hd).elim | exact (Nat.ne_of_lt ht12 hd).elim | exact (hc hp2).elim | exact (hd hp).elim | exact (hr2 hc).elim | exact (Nat.ne_of_lt ht2 hc).elim
    · first | exact (hd ⟨i, hi, ep⟩).elim | exact (hr hd).elim | exact (Nat.ne_of_lt ht12 hd).elim | exact (hc hp2).elim | exact (hd hp).elim | exact (hr2 hc).elim | exact (Nat.ne_of_lt ht2 hc).elim
    · obtain ⟨h1, h2, h3, ⟨-, h4, h5⟩, h6, on, to, h7⟩ := hK.thr (v := 0)
      obtain ⟨b6, a7, a8, a9, a10, a22, a23, a21⟩ := h6 tc (Nat.le_refl _) ht12
      refine ⟨rfl, fun _ => by rw [ho1, er, er2], h1, h2, h3, ⟨rfl, by omega, fun j hj => ?_⟩, fun j hj h12 => h6 j (by omega) h12, on, to, ?_⟩
      · by_cases q : j = tc
        · rw [q]
          have hz : ¬ p2 < 0 := fun z => hr (Or.inr (Or.inl z))
          have hle : p2 ≤ p1 := Int32.not_lt.mp (fun z => hr (Or.inr (Or.inr z)))
          have hmx : p1 ≤ 1000000 := Int32.not_lt.mp (fun z => hr (Or.inl z))
          refine ⟨⟨?_, ?_⟩, ⟨?_, ?_, ?_, ?_, ?_⟩, ⟨⟨0, by omega, ?_, ?_⟩, ⟨0, by omega, ?_, ?_⟩⟩, ⟨?_, ?_, ⟨0, by omega, ?_⟩⟩, ⟨Or.inl ?_, ?_, ?_⟩, fun k hk => ⟨?_, 0, by omega, ?_⟩⟩
          · rw [va_up_self]; exact hi
          · rw [va_up_self]
            show upd (A 3) tc p0 tc = nI i
            rw [pk_us]; exact ep
          · show upd (A 4) tc p1 tc = up2 I 5 tc p1 5 tc
            rw [pk_us, up2_self]
          · show upd (A 5) tc p2 tc = up2 (up2 I 5 tc p1) 6 tc p2 6 tc
            rw [pk_us, up2_self]
          · show B 6 tc = up2 J 1 tc 0 1 tc
            rw [b6, up2_self]
          · show A 7 tc = up2 (up2 (up2 I 5 tc p1) 6 tc p2) 7 tc 0 7 tc
            rw [a7, up2_self]
          · show A 8 tc = up2 (up2 (up2 (up2 I 5 tc p1) 6 tc p2) 7 tc 0) 8 tc 0 8 tc
            rw [a8, up2_self]
          · exact a9
          · show up2 (up2 J 1 tc 0) 2 tc 0 2 tc = lN 0
            rw [up2_self]; rfl
          · exact a10
          · show up2 (up2 (up2 J 1 tc 0) 2 tc 0) 3 tc 0 3 tc = lN 0
            rw [up2_self]; rfl
          · show A 22 tc = up2 (up2 (up2 (up2 (up2 I 5 tc p1) 6 tc p2) 7 tc 0) 8 tc 0) 9 tc 0 9 tc
            rw [a22, up2_self]
          · show A 23 tc = up2 (up2 (up2 (up2 (up2 (up2 I 5 tc p1) 6 tc p2) 7 tc 0) 8 tc 0) 9 tc 0) 10 tc (-1) 10 tc
            rw [a23, up2_self]
          · show up2 (up2 (up2 (up2 (up2 I 5 tc p1) 6 tc p2) 7 tc 0) 8 tc 0) 9 tc 0 9 tc = nI 0
            rw [up2_self]; rfl
          · show up2 (up2 (up2 (up2 I 5 tc p1) 6 tc p2) 7 tc 0) 8 tc 0 8 tc = 0
            rw [up2_self]
          · show ∃ v, v ≤ 1000000 ∧ up2 I 5 tc p1 5 tc = nI v
            rw [up2_self]
            exact nI_of2 (M := 1000000) rfl (fun z => hz (lt_of3 hle z)) hmx
          · show ∃ v, v ≤ 1000000 ∧ up2 (up2 I 5 tc p1) 6 tc p2 6 tc = nI v
            rw [up2_self]
            exact nI_of2 (M := 1000000) rfl hz (Int32.le_trans hle hmx)
          · rw [up2_self]; exact a21 k hk
          · rw [up2_self]; rfl
        · have hjt : j < tc := by omega
          exact (h5 j hjt).congr (fun b => by rw [up2_ne _ _ (fun z => q z.2), up2_ne _ _ (fun z => q z.2), up2_ne _ _ (fun z => q z.2), up2_ne _ _ (fun z => q z.2), up2_ne _ _ (fun z => q z.2), up2_ne _ _ (fun z => q z.2)]) (fun b => by rw [up2_ne _ _ (fun z => q z.2), up2_ne _ _ (fun z => q z.2), up2_ne _ _ (fun z => q z.2)]) (up2_ne _ _ (fun z => q z.2)) (va_up_ne _ _ q) (fun b _ => (va_ne (pk_un q)).trans ((va_ne (pk_un q)).trans (va_ne (pk_un q)))) (fun _ _ => rfl) rfl
      · obtain ⟨g1, g2, g3, g4, g5, g6⟩ := h7
        refine ⟨g1, g2, g3, g4, fun o ho => ⟨by have := (g5 o ho).1; omega, (g5 o ho).2⟩, g6.trans ?_⟩
        refine List.map_congr_left (fun o ho => ?_)
        have := (g5 o (List.mem_range.mp ho)).1
        show (A 3 (to o), A 25 o) = (upd (A 3) tc p0 (to o), A 25 o)
        rw [pk_un (by omega)]
  · rcases h2 with ⟨hd, rfl⟩ | ⟨hp2, hd, rfl⟩ | ⟨hp2, hr2, hd, rfl⟩ | ⟨hp2, hr2, ht2, er2, rfl⟩
    · exact ⟨rfl, fun q => absurd q (by decide), hK.thr⟩
    · first | exact (hd ⟨i, hi, ep⟩).elim | exact (hr hd).elim | exact (Nat.ne_of_lt ht12 hd).elim | exact (hc hp2).elim | exact (hd hp).elim | exact (hr2 hc).elim | exact (Nat.ne_of_lt ht2 hc).elim
    · first | exact (hd ⟨i, hi, ep⟩).elim | exact (hr hd).elim | exact (Nat.ne_of_lt ht12 hd).elim | exact (hc hp2).elim | exact (hd hp).elim | exact (hr2 hc).elim | exact (Nat.ne_of_lt ht2 hc).elim
    · first | exact (hd ⟨i, hi, ep⟩).elim | exact (hr hd).elim | exact (Nat.ne_of_lt ht12 hd).elim | exact (hc hp2).elim | exact (hd hp).elim | exact (hr2 hc).elim | exact (Nat.ne_of_lt ht2 hc).elim
  · rcases h2 with ⟨hd, rfl⟩ | ⟨hp2, hd, rfl⟩ | ⟨hp2, hr2, hd, rfl⟩ | ⟨hp2, hr2, ht2, er2, rfl⟩
    · first | exact (hd ⟨i, hi, ep⟩).elim | exact (hr hd).elim | exact (Nat.ne_of_lt ht12 hd).elim | exact (hc hp2).elim | exact (hd hp).elim | exact (hr2 hc).elim | exact (Nat.ne_of_lt ht2 hc).elim
    · exact ⟨rfl, fun q => absurd q (by decide), hK.thr⟩
    · first | exact (hd ⟨i, hi, ep⟩).elim | exact (hr hd).elim | exact (Nat.ne_of_lt ht12 hd).elim | exact (hc hp2).elim | exact (hd hp).elim | exact (hr2 hc).elim | exact (Nat.ne_of_lt ht2 hc).elim
    · first | exact (hd ⟨i, hi, ep⟩).elim | exact (hr hd).elim | exact (Nat.ne_of_lt ht12 hd).elim | exact (hc hp2).elim | exact (hd hp).elim | exact (hr2 hc).elim | exact (Nat.ne_of_lt ht2 hc).elim
  · rcases h2 with ⟨hd, rfl⟩ | ⟨hp2, hd, rfl⟩ | ⟨hp2, hr2, hd, rfl⟩ | ⟨hp2, hr2, ht2, er2, rfl⟩
    · first | exact (hd ⟨i, hi, ep⟩).elim | exact (hr hd).elim | exact (Nat.ne_of_lt ht12 hd).elim | exact (hc hp2).elim | exact (hd hp).elim | exact (hr2 hc).elim | exact (Nat.ne_of_lt ht2 hc).elim
    · first | exact (hd ⟨i, hi, ep⟩).elim | exact (hr hd).elim | exact (Nat.ne_of_lt ht12 hd).elim | exact (hc hp2).elim | exact (hd hp).elim | exact (hr2 hc).elim | exact (Nat.ne_of_lt ht2 hc).elim
    · exact ⟨rfl, fun q => absurd q (by decide), hK.thr⟩
    · first | exact (hd ⟨i, hi, ep⟩).elim | exact (hr hd).elim | exact (Nat.ne_of_lt ht12 hd).elim | exact (hc hp2).elim | exact (hd hp).elim | exact (hr2 hc).elim | exact (Nat.ne_of_lt ht2 hc).elim

set_option maxRecDepth 100000 in
theorem cp_use {n : Nat} {I : Nat → Nat → Int32} {J : Nat → Nat → Int64} {F : Nat → Nat → Nat → Int32} {si : Nat → Nat} {tc oc : Nat} {A : Nat → Nat → Int32} {B : Nat → Nat → Int64} {S : Nat → Int32} {sd : Int64} (hK : Kp n (I, J, F, si, tc, oc) (A, B, S) sd)  {p0 p1 p2 p3 : Int32} {k : Int32} {o : Int64} {rv : Int32} {x1 : eS} {y1 : mSt} (h1 : R_L_use I J F si tc oc p0 p1 p2 p3 k o x1) (h2 : R_M_use A B S sd tc si p0 p1 p2 p3 rv y1) : y1.2.2 0 = k ∧ (k = 0 → o = (if rv = 0 then 0 else 1)) ∧ Kp (n + 1) x1 y1 sd := by
  have hb7 : ∀ {i j : Nat} {p : Int32}, i < tc → j < tc → p = nI i → p = nI j → I 7 i = 0 → ¬ A 7 j = 0 → False := fun {i j p} h1 h2 h3 h4 h5 h6 => by
    obtain rfl := nI_in2 (h3.symm.trans h4) h1 h2 (by have := hK.ht; omega)
    exact h6 ((hK.2.2.2.1.2.2 i h1).2.1.2.2.2.1.trans h5)
  have hb8 : ∀ {i j : Nat} {p : Int32}, i < tc → j < tc → p = nI i → p = nI j → ¬ I 7 i = 0 → A 7 j = 0 → False := fun {i j p} h1 h2 h3 h4 h5 h6 => by
    obtain rfl := nI_in2 (h3.symm.trans h4) h1 h2 (by have := hK.ht; omega)
    exact h5 ((hK.2.2.2.1.2.2 i h1).2.1.2.2.2.1.symm.trans h6)
  rcases h1 with ⟨rfl, r9, ho1, ⟨i, a, b, hi, ep, ha, ea, hb, eb, hr, hz, hv, rfl⟩⟩ | ⟨rfl, hc, rfl⟩ | ⟨rfl, ⟨hp, hc⟩, rfl⟩ | ⟨rfl, ⟨⟨i, hi, ep, hz⟩, hpa, hpb, hr⟩, rfl⟩
  · rcases h2 with ⟨hd, rfl⟩ | ⟨hp2, hd, rfl⟩ | ⟨⟨i2, hi2, ep2, hz2⟩, hpa2, hpb2, hr2, rfl⟩ | ⟨t, a2, b2, hi2, ep2, ha2, ea2, hb2, eb2, hr2, hz2, hv2, rfl⟩
    · first | exact (hd ⟨⟨i, hi, ep⟩, ⟨a, ha, ea⟩, ⟨b, hb, eb⟩⟩).elim | exact (hr hd).elim | exact (hc hp2).elim | exact (hc ⟨⟨i2, hi2, ep2⟩, hpa2, hpb2⟩).elim | exact (hc ⟨⟨t, hi2, ep2⟩, ⟨a2, ha2, ea2⟩, ⟨b2, hb2, eb2⟩⟩).elim | exact (hd hp).elim | exact (hr2 hc).elim | exact (hd ⟨⟨i, hi, ep⟩, hpa, hpb⟩).elim | exact (hb7 hi hi2 ep ep2 hz hz2).elim | exact (hb8 hi hi2 ep ep2 hz hz2).elim
    · first | exact (hd ⟨⟨i, hi, ep⟩, ⟨a, ha, ea⟩, ⟨b, hb, eb⟩⟩).elim | exact (hr hd).elim | exact (hc hp2).elim | exact (hc ⟨⟨i2, hi2, ep2⟩, hpa2, hpb2⟩).elim | exact (hc ⟨⟨t, hi2, ep2⟩, ⟨a2, ha2, ea2⟩, ⟨b2, hb2, eb2⟩⟩).elim | exact (hd hp).elim | exact (hr2 hc).elim | exact (hd ⟨⟨i, hi, ep⟩, hpa, hpb⟩).elim | exact (hb7 hi hi2 ep ep2 hz hz2).elim | exact (hb8 hi hi2 ep ep2 hz hz2).elim
    · first | exact (hd ⟨⟨i, hi, ep⟩, ⟨a, ha, ea⟩, ⟨b, hb, eb⟩⟩).elim | exact (hr hd).elim | exact (hc hp2).elim | exact (hc ⟨⟨i2, hi2, ep2⟩, hpa2, hpb2⟩).elim | exact (hc ⟨⟨t, hi2, ep2⟩, ⟨a2, ha2, ea2⟩, ⟨b2, hb2, eb2⟩⟩).elim | exact (hd hp).elim | exact (hr2 hc).elim | exact (hd ⟨⟨i, hi, ep⟩, hpa, hpb⟩).elim | exact (hb7 hi hi2 ep ep2 hz hz2).elim | exact (hb8 hi hi2 ep ep2 hz hz2).elim
    · obtain rfl := nI_in2 (ep.symm.trans ep2) hi hi2 (by have := hK.ht; omega)
      obtain rfl := nI_in2 (ea.symm.trans ea2) ha ha2 (by decide)
      obtain rfl := nI_in2 (eb.symm.trans eb2) hb hb2 (by decide)
      obtain ⟨h1, h2, h3, ⟨h4, h4b, h5⟩, h6, on, to, h7⟩ := hK.thr (v := 0)
      obtain ⟨⟨s1, s2⟩, ⟨s3, s4, s5, s6, s7⟩, ⟨⟨u1, hu1, eu1, eu2⟩, s9⟩, s10⟩ := hK.2.2.2.1.2.2 i hi
      have ew : B 11 (4 * a + b) = (I 1 (4 * a + b)).toInt64 := h2.1 _ (by omega)
      rw [ew, s5] at hv2
      rw [ew, s5]
      have er := bv_uni hv hv2 (by rw [h2.2 _ s1])
      refine ⟨rfl, fun _ => by rw [ho1, er], h1, h2, h3, ⟨h4, h4b, fun j hj => ?_⟩, fun j hj h12 => ?_, on, to, h7⟩
      · by_cases q : j = i
        · subst q
          obtain ⟨w1, hw1, ew1⟩ := s9
          refine ⟨⟨s1, s2⟩, ⟨s3, s4, ?_, s6, s7⟩, ⟨⟨u1 + 1, by omega, ?_, ?_⟩, ⟨w1, by omega, ew1⟩⟩, s10⟩
          · show vp_updL (B 6) j _ j = up2 J 1 j _ 1 j
            rw [pk_uLs, up2_self]
          · show upd (A 9) j _ j = nI (u1 + 1)
            rw [pk_us, eu1, nI_1]
          · show up2 (up2 J 1 j _) 2 j _ 2 j = lN (u1 + 1)
            rw [up2_self, eu2, lN_1]
        · exact (h5 j hj).congr (fun _ => rfl) (fun b => by rw [up2_ne _ _ (fun z => q z.2), up2_ne _ _ (fun z => q z.2)]) rfl rfl (fun b _ => va_ne (pk_un q)) (fun _ _ => rfl) (by
            show vp_updL (B 6) i _ j = B 6 j
            rw [pk_uLn q])
      · have q : j ≠ i := by omega
        exact (h6 j hj h12).congr (fun b _ => va_ne (pk_un q)) (fun _ _ => rfl) (by
          show vp_updL (B 6) i _ j = B 6 j
          rw [pk_uLn q])
  · rcases h2 with ⟨hd, rfl⟩ | ⟨hp2, hd, rfl⟩ | ⟨⟨i2, hi2, ep2, hz2⟩, hpa2, hpb2, hr2, rfl⟩ | ⟨t, a2, b2, hi2, ep2, ha2, ea2, hb2, eb2, hr2, hz2, hv2, rfl⟩
    · exact ⟨rfl, fun q => absurd q (by decide), hK.thr⟩
    · first | exact (hd ⟨⟨i, hi, ep⟩, ⟨a, ha, ea⟩, ⟨b, hb, eb⟩⟩).elim | exact (hr hd).elim | exact (hc hp2).elim | exact (hc ⟨⟨i2, hi2, ep2⟩, hpa2, hpb2⟩).elim | exact (hc ⟨⟨t, hi2, ep2⟩, ⟨a2, ha2, ea2⟩, ⟨b2, hb2, eb2⟩⟩).elim | exact (hd hp).elim | exact (hr2 hc).elim | exact (hd ⟨⟨i, hi, ep⟩, hpa, hpb⟩).elim | exact (hb7 hi hi2 ep ep2 hz hz2).elim | exact (hb8 hi hi2 ep ep2 hz hz2).elim
    · first | exact (hd ⟨⟨i, hi, ep⟩, ⟨a, ha, ea⟩, ⟨b, hb, eb⟩⟩).elim | exact (hr hd).elim | exact (hc hp2).elim | exact (hc ⟨⟨i2, hi2, ep2⟩, hpa2, hpb2⟩).elim | exact (hc ⟨⟨t, hi2, ep2⟩, ⟨a2, ha2, ea2⟩, ⟨b2, hb2, eb2⟩⟩).elim | exact (hd hp).elim | exact (hr2 hc).elim | exact (hd ⟨⟨i, hi, ep⟩, hpa, hpb⟩).elim | exact (hb7 hi hi2 ep ep2 hz hz2).elim | exact (hb8 hi hi2 ep ep2 hz hz2).elim
    · first | exact (hd ⟨⟨i, hi, ep⟩, ⟨a, ha, ea⟩, ⟨b, hb, eb⟩⟩).elim | exact (hr hd).elim | exact (hc hp2).elim | exact (hc ⟨⟨i2, hi2, ep2⟩, hpa2, hpb2⟩).elim | exact (hc ⟨⟨t, hi2, ep2⟩, ⟨a2, ha2, ea2⟩, ⟨b2, hb2, eb2⟩⟩).elim | exact (hd hp).elim | exact (hr2 hc).elim | exact (hd ⟨⟨i, hi, ep⟩, hpa, hpb⟩).elim | exact (hb7 hi hi2 ep ep2 hz hz2).elim | exact (hb8 hi hi2 ep ep2 hz hz2).elim
  · rcases h2 with ⟨hd, rfl⟩ | ⟨hp2, hd, rfl⟩ | ⟨⟨i2, hi2, ep2, hz2⟩, hpa2, hpb2, hr2, rfl⟩ | ⟨t, a2, b2, hi2, ep2, ha2, ea2, hb2, eb2, hr2, hz2, hv2, rfl⟩
    · first | exact (hd ⟨⟨i, hi, ep⟩, ⟨a, ha, ea⟩, ⟨b, hb, eb⟩⟩).elim | exact (hr hd).elim | exact (hc hp2).elim | exact (hc ⟨⟨i2, hi2, ep2⟩, hpa2, hpb2⟩).elim | exact (hc ⟨⟨t, hi2, ep2⟩, ⟨a2, ha2, ea2⟩, ⟨b2, hb2, eb2⟩⟩).elim | exact (hd hp).elim | exact (hr2 hc).elim | exact (hd ⟨⟨i, hi, ep⟩, hpa, hpb⟩).elim | exact (hb7 hi hi2 ep ep2 hz hz2).elim | exact (hb8 hi hi2 ep ep2 hz hz2).elim
    · exact ⟨rfl, fun q => absurd q (by decide), hK.thr⟩
    · first | exact (hd ⟨⟨i, hi, ep⟩, ⟨a, ha, ea⟩, ⟨b, hb, eb⟩⟩).elim | exact (hr hd).elim | exact (hc hp2).elim | exact (hc ⟨⟨i2, hi2, ep2⟩, hpa2, hpb2⟩).elim | exact (hc ⟨⟨t, hi2, ep2⟩, ⟨a2, ha2, ea2⟩, ⟨b2, hb2, eb2⟩⟩).elim | exact (hd hp).elim | exact (hr2 hc).elim | exact (hd ⟨⟨i, hi, ep⟩, hpa, hpb⟩).elim | exact (hb7 hi hi2 ep ep2 hz hz2).elim | exact (hb8 hi hi2 ep ep2 hz hz2).elim
    · first | exact (hd ⟨⟨i, hi, ep⟩, ⟨a, ha, ea⟩, ⟨b, hb, eb⟩⟩).elim | exact (hr hd).elim | exact (hc hp2).elim | exact (hc ⟨⟨i2, hi2, ep2⟩, hpa2, hpb2⟩).elim | exact (hc ⟨⟨t, hi2, ep2⟩, ⟨a2, ha2, ea2⟩, ⟨b2, hb2, eb2⟩⟩).elim | exact (hd hp).elim | exact (hr2 hc).elim | exact (hd ⟨⟨i, hi, ep⟩, hpa, hpb⟩).elim | exact (hb7 hi hi2 ep ep2 hz hz2).elim | exact (hb8 hi hi2 ep ep2 hz hz2).elim
  · rcases h2 with ⟨hd, rfl⟩ | ⟨hp2, hd, rfl⟩ | ⟨⟨i2, hi2, ep2, hz2⟩, hpa2, hpb2, hr2, rfl⟩ | ⟨t, a2, b2, hi2, ep2, ha2, ea2, hb2, eb2, hr2, hz2, hv2, rfl⟩
    · first | exact (hd ⟨⟨i, hi, ep⟩, ⟨a, ha, ea⟩, ⟨b, hb, eb⟩⟩).elim | exact (hr hd).elim | exact (hc hp2).elim | exact (hc ⟨⟨i2, hi2, ep2⟩, hpa2, hpb2⟩).elim | exact (hc ⟨⟨t, hi2, ep2⟩, ⟨a2, ha2, ea2⟩, ⟨b2, hb2, eb2⟩⟩).elim | exact (hd hp).elim | exact (hr2 hc).elim | exact (hd ⟨⟨i, hi, ep⟩, hpa, hpb⟩).elim | exact (hb7 hi hi2 ep ep2 hz hz2).elim | exact (hb8 hi hi2 ep ep2 hz hz2).elim
    · first | exact (hd ⟨⟨i, hi, ep⟩, ⟨a, ha, ea⟩, ⟨b, hb, eb⟩⟩).elim | exact (hr hd).elim | exact (hc hp2).elim | exact (hc ⟨⟨i2, hi2, ep2⟩, hpa2, hpb2⟩).elim | exact (hc ⟨⟨t, hi2, ep2⟩, ⟨a2, ha2, ea2⟩, ⟨b2, hb2, eb2⟩⟩).elim | exact (hd hp).elim | exact (hr2 hc).elim | exact (hd ⟨⟨i, hi, ep⟩, hpa, hpb⟩).elim | exact (hb7 hi hi2 ep ep2 hz hz2).elim | exact (hb8 hi hi2 ep ep2 hz hz2).elim
    · exact ⟨rfl, fun q => absurd q (by decide), hK.thr⟩
    · first | exact (hd ⟨⟨i, hi, ep⟩, ⟨a, ha, ea⟩, ⟨b, hb, eb⟩⟩).elim | exact (hr hd).elim | exact (hc hp2).elim | exact (hc ⟨⟨i2, hi2, ep2⟩, hpa2, hpb2⟩).elim | exact (hc ⟨⟨t, hi2, ep2⟩, ⟨a2, ha2, ea2⟩, ⟨b2, hb2, eb2⟩⟩).elim | exact (hd hp).elim | exact (hr2 hc).elim | exact (hd ⟨⟨i, hi, ep⟩, hpa, hpb⟩).elim | exact (hb7 hi hi2 ep ep2 hz hz2).elim | exact (hb8 hi hi2 ep ep2 hz hz2).elim

