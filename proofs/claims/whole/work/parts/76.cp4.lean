theorem eFire_uni {r b : Int32} {P0 P1 P2 P3 Q0 Q1 Q2 Q3 : Prop} (h1 : eFire r P0 P1 P2 P3) (h2 : eFire b Q0 Q1 Q2 Q3) (e0 : P0 ↔ Q0) (e1 : P1 ↔ Q1) (e2 : P2 ↔ Q2) (e3 : P3 ↔ Q3) : r = b := by
  rw [propext e0, propext e1, propext e2, propext e3] at h1
  rcases h1 with ⟨h, a0⟩ | ⟨h, a0, a1⟩ | ⟨h, a0, a1, a2⟩ | ⟨h, a0, a1, a2, a3⟩ | ⟨h, a0, a1, a2, a3⟩ <;> rcases h2 with ⟨g, c0⟩ | ⟨g, c0, c1⟩ | ⟨g, c0, c1, c2⟩ | ⟨g, c0, c1, c2, c3⟩ | ⟨g, c0, c1, c2, c3⟩ <;> first
    | exact h.trans g.symm
    | exact absurd a0 c0
    | exact absurd c0 a0
    | exact absurd a1 c1
    | exact absurd c1 a1
    | exact absurd a2 c2
    | exact absurd c2 a2
    | exact absurd a3 c3
    | exact absurd c3 a3
theorem cnt24 {c : Nat} (h : c ≤ 24) : (if 24 < nI c + 1 then (24 : Int32) else nI c + 1) = nI (if c < 24 then c + 1 else 24) := by
  rw [nI_1, show (24 : Int32) = nI 24 from rfl]
  by_cases q : c < 24
  · rw [if_pos q, if_neg (fun z => absurd ((nI_ltI (by decide) (by omega)).mp z) (show ¬ 24 < c + 1 by omega))]
  · rw [if_neg q, if_pos (nI_lt (show 24 < c + 1 by omega) (by omega))]
set_option maxRecDepth 100000 in
theorem cp_power {n : Nat} {I : Nat → Nat → Int32} {J : Nat → Nat → Int64} {F : Nat → Nat → Nat → Int32} {si : Nat → Nat} {tc oc : Nat} {A : Nat → Nat → Int32} {B : Nat → Nat → Int64} {S : Nat → Int32} {sd : Int64} (hK : Kp n (I, J, F, si, tc, oc) (A, B, S) sd) (R : Nat) (hR : S 18 = nI (R + 1)) (hR2 : R ≤ 11) {p0 p1 p2 : Int32} {k : Int32} {o : Int64} {rv : Int32} {x1 : eS} {y1 : mSt} (h1 : R_L_power I J F si tc oc p0 p1 p2 k o x1) (h2 : R_M_power A B S sd tc R p0 p1 p2 rv y1) : y1.2.2 0 = k ∧ (k = 0 → o = rv.toInt64) ∧ Kp (n + 1) x1 y1 sd := by
  have hcv : ∀ {i t : Nat} {p : Int32}, i < tc → t < tc → p = nI i → p = nI t → A 23 t = I 10 i := fun {i t p} h1 h2 h3 h4 => by
    obtain rfl := nI_in2 (h3.symm.trans h4) h1 h2 (by have := hK.ht; omega)
    exact (hK.2.2.2.1.2.2 i h1).2.2.2.1.2.1
  rcases h1 with ⟨rfl, r9, ho1, ⟨i, k2, hi, ep, hr, hk2, hk12, ek, hf, rfl⟩⟩ | ⟨rfl, hc, rfl⟩ | ⟨rfl, ⟨i, hi, ep, hc⟩, rfl⟩
  · rcases h2 with ⟨hd, rfl⟩ | ⟨⟨t, hi2, ep2, hd⟩, rfl⟩ | ⟨t, c9, hi2, ep2, hr2, hc9, ec9, hf2, rfl⟩
    · first | exact (hd ⟨i, hi, ep⟩).elim | exact (hc ⟨t, hi2, ep2⟩).elim | exact (hr (by rw [← hcv hi hi2 ep ep2]; exact hd)).elim | exact (hr2 (by rw [hcv hi hi2 ep ep2]; exact hc)).elim
    · first | exact (hd ⟨i, hi, ep⟩).elim | exact (hc ⟨t, hi2, ep2⟩).elim | exact (hr (by rw [← hcv hi hi2 ep ep2]; exact hd)).elim | exact (hr2 (by rw [hcv hi hi2 ep ep2]; exact hc)).elim
    · obtain rfl := nI_in2 (ep.symm.trans ep2) hi hi2 (by have := hK.ht; omega)
      obtain ⟨⟨b1, b2, b3, b4, b5, b6⟩, h2, h3, ⟨h4, h4b, h5⟩, h6, on, to, h7⟩ := hK.thr (v := 0)
      obtain ⟨a1, a2, a3, ⟨a4, a5, a6⟩, a7, a8⟩ := hK.2.2.2.1.2.2 i hi
      have ht := hK.ht
      have ekR : k2 = R + 1 := (nI_eq (by omega) (by omega)).mp (ek.symm.trans (hK.1.2.2.1.symm.trans hR))
      subst ekR
      have ei9 : I 9 i = nI c9 := a4.symm.trans ec9
      rw [ei9, cnt24 hc9] at hf
      have hfe : ∀ q, q < 24 → (mPw (A 21) i p2) (24 * i + q) = upd (va_cpy (F 1 i) (F 1 i) 0 1 23) 0 p2 q := fun q hq => by
        cases q with
        | zero => rw [mPw_0, pk_us]
        | succ q =>
          rw [mPw_s _ _ _ (by omega), pk_un (by omega), pk_cpy_in (by omega) (by omega), (a8 q (by omega)).1]
          congr 1
          omega
      have hbd : ∀ q, q < 24 → ∃ v, v ≤ 1000000 ∧ upd (va_cpy (F 1 i) (F 1 i) 0 1 23) 0 p2 q = nI v := fun q hq => by
        cases q with
        | zero =>
          rw [pk_us]
          exact nI_of2 (M := 1000000) rfl (fun z => hr (Or.inl z)) (Int32.not_lt.mp (fun z => hr (Or.inr (Or.inl z))))
        | succ q =>
          rw [pk_un (by omega), pk_cpy_in (by omega) (by omega), show 0 + (q + 1 - 1) = q by omega]
          exact (a8 q (by omega)).2
      have er := eFire_uni hf hf2 (by rw [hfe 0 (by omega), hK.1.2.1]) (by
        constructor
        · rintro ⟨z1, z2⟩
          exact ⟨z1, fun j hj => by rw [hfe _ (by omega), hfe _ (by omega)]; exact z2 j hj⟩
        · rintro ⟨z1, z2⟩
          exact ⟨z1, fun j hj => by rw [← hfe _ (by omega), ← hfe _ (by omega)]; exact z2 j hj⟩) (by
        rw [← hK.1.2.2.2.1]
        constructor
        · rintro ⟨z1, z2⟩
          exact ⟨z1, fun j hj => by rw [hfe _ (by omega)]; exact z2 j hj⟩
        · rintro ⟨z1, z2⟩
          exact ⟨z1, fun j hj => by rw [← hfe _ (by omega)]; exact z2 j hj⟩) (by rw [hfe 0 (by omega), hfe 1 (by omega), hfe 2 (by omega), hK.1.2.2.2.2.1])
      rw [ei9, cnt24 hc9]
      refine ⟨rfl, fun _ => by rw [ho1, er], ⟨b1, b2, b3, b4, b5, b6⟩, h2, h3, ⟨h4, h4b, fun j hj => ?_⟩, fun j hj h12 => ?_, on, to, h7⟩
      · by_cases q : j = i
        · subst q
          refine ⟨a1, a2, (h5 j hj).2.2.1, ⟨?_, ?_, ⟨if c9 < 24 then c9 + 1 else 24, by split <;> omega, ?_⟩⟩, a7, fun k hk => ⟨?_, ?_⟩⟩
          · show upd (A 22) j _ j = up2 (up2 I 9 j _) 10 j p1 9 j
            rw [pk_us, up2_ne _ _ (fun z => absurd z.1 (by decide)), up2_self]
          · show upd (A 23) j p1 j = up2 (up2 I 9 j _) 10 j p1 10 j
            rw [pk_us, up2_self]
          · rw [up2_ne _ _ (fun z => absurd z.1 (by decide)), up2_self]
          · rw [up2_self]
            exact hfe k hk
          · rw [up2_self]
            exact hbd k hk
        · exact (h5 j hj).congr (fun b => by rw [up2_ne _ _ (fun z => q z.2), up2_ne _ _ (fun z => q z.2)]) (fun _ => rfl) (up2_ne _ _ (fun z => q z.2)) rfl (fun b hb => (va_ne (pk_un q)).trans ((congrFun (va_up_ne _ _ hb) j).trans (va_ne (pk_un q)))) (fun k hk => mPw_o (A 21) p2 q hk) rfl
      · have q : j ≠ i := by omega
        exact (h6 j hj h12).congr (fun b hb => (va_ne (pk_un q)).trans ((congrFun (va_up_ne _ _ hb) j).trans (va_ne (pk_un q)))) (fun k hk => mPw_o (A 21) p2 q hk) rfl
  · rcases h2 with ⟨hd, rfl⟩ | ⟨⟨t, hi2, ep2, hd⟩, rfl⟩ | ⟨t, c9, hi2, ep2, hr2, hc9, ec9, hf2, rfl⟩
    · exact ⟨rfl, fun q => absurd q (by decide), hK.thr⟩
    · first | exact (hd ⟨i, hi, ep⟩).elim | exact (hc ⟨t, hi2, ep2⟩).elim | exact (hr (by rw [← hcv hi hi2 ep ep2]; exact hd)).elim | exact (hr2 (by rw [hcv hi hi2 ep ep2]; exact hc)).elim
    · first | exact (hd ⟨i, hi, ep⟩).elim | exact (hc ⟨t, hi2, ep2⟩).elim | exact (hr (by rw [← hcv hi hi2 ep ep2]; exact hd)).elim | exact (hr2 (by rw [hcv hi hi2 ep ep2]; exact hc)).elim
  · rcases h2 with ⟨hd, rfl⟩ | ⟨⟨t, hi2, ep2, hd⟩, rfl⟩ | ⟨t, c9, hi2, ep2, hr2, hc9, ec9, hf2, rfl⟩
    · first | exact (hd ⟨i, hi, ep⟩).elim | exact (hc ⟨t, hi2, ep2⟩).elim | exact (hr (by rw [← hcv hi hi2 ep ep2]; exact hd)).elim | exact (hr2 (by rw [hcv hi hi2 ep ep2]; exact hc)).elim
    · exact ⟨rfl, fun q => absurd q (by decide), hK.thr⟩
    · first | exact (hd ⟨i, hi, ep⟩).elim | exact (hc ⟨t, hi2, ep2⟩).elim | exact (hr (by rw [← hcv hi hi2 ep ep2]; exact hd)).elim | exact (hr2 (by rw [hcv hi hi2 ep ep2]; exact hc)).elim

theorem ol_succ {I I1 : Nat → Nat → Int32} {oc : Nat} {a b : Int32} (h : ∀ j, j < oc → I1 13 j = I 13 j ∧ I1 11 j = I 11 j ∧ I1 12 j = I 12 j) (h13 : I1 13 oc = 0) (h11 : I1 11 oc = a) (h12 : I1 12 oc = b) : ol I1 (oc + 1) = ol I oc ++ [(a, b)] := by
  unfold ol
  rw [List.range_succ, List.filter_append, List.map_append]
  congr 1
  · rw [List.filter_congr (q := fun j => decide (I 13 j = 0)) (fun j hj => by rw [(h j (List.mem_range.mp hj)).1])]
    refine List.map_congr_left (fun j hj => ?_)
    have := h j (List.mem_range.mp (List.mem_filter.mp hj).1)
    rw [this.2.1, this.2.2]
  · rw [List.filter_cons_of_pos (by rw [h13]; rfl), List.filter_nil, List.map_cons, List.map_nil, h11, h12]
set_option maxRecDepth 100000 in
theorem cp_order {n : Nat} {I : Nat → Nat → Int32} {J : Nat → Nat → Int64} {F : Nat → Nat → Nat → Int32} {si : Nat → Nat} {tc oc : Nat} {A : Nat → Nat → Int32} {B : Nat → Nat → Int64} {S : Nat → Int32} {sd : Int64} (hK : Kp n (I, J, F, si, tc, oc) (A, B, S) sd) (on : Nat) (to : Nat → Nat) (hO : kO I tc oc A S on to) {p0 p1 : Int32} {k : Int32} {o : Int64} {rv : Int32} {x1 : eS} {y1 : mSt} (h1 : R_L_order I J F si tc oc p0 p1 k o x1) (h2 : R_M_order A B S sd tc on oc p0 p1 rv y1) : y1.2.2 0 = k ∧ (k = 0 → o = (if rv = 0 then 0 else 1)) ∧ Kp (n + 1) x1 y1 sd := by
  rcases h1 with ⟨rfl, r9, ho1, ⟨i, hi, ep, hr, hx⟩⟩ | ⟨rfl, hc, rfl⟩ | ⟨rfl, ⟨hp, hc⟩, rfl⟩
  · rcases h2 with ⟨hd, rfl⟩ | ⟨hp2, hd, rfl⟩ | ⟨t, hi2, ep2, hr2, hy⟩
    · first | exact (hd ⟨i, hi, ep⟩).elim | exact (hr hd).elim | exact (hc hp2).elim | exact (hc ⟨t, hi2, ep2⟩).elim | exact (hd hp).elim | exact (hr2 hc).elim
    · first | exact (hd ⟨i, hi, ep⟩).elim | exact (hr hd).elim | exact (hc hp2).elim | exact (hc ⟨t, hi2, ep2⟩).elim | exact (hd hp).elim | exact (hr2 hc).elim
    · obtain rfl := nI_in2 (ep.symm.trans ep2) hi hi2 (by have := hK.ht; omega)
      rcases hx with ⟨e16, er, rfl⟩ | ⟨l16, er, q, rfl⟩
      · rcases hy with ⟨-, er2, rfl⟩ | ⟨l2, er2, rfl⟩
        · exact ⟨rfl, fun _ => by rw [ho1, er, er2], hK.thr⟩
        · omega
      · rcases hy with ⟨e2, er2, rfl⟩ | ⟨l2, er2, rfl⟩
        · omega
        · obtain ⟨h1, h2, h3, h4, h5, -⟩ := hK.thr (v := 0)
          obtain ⟨g1, g2, g3, g4, g5, g6⟩ := hO
          refine ⟨rfl, fun _ => by rw [ho1, er, er2], h1, h2, h3, h4, h5, on + 1, va_up to on i, by omega, rfl, rfl, by omega, fun o ho => ?_, ?_⟩
          · by_cases z : o = on
            · rw [z, va_up_self]
              refine ⟨hi, ?_⟩
              show upd (A 24) on p0 on = nI i
              rw [pk_us, ep]
            · rw [va_up_ne _ _ z]
              refine ⟨(g5 o (by omega)).1, ?_⟩
              show upd (A 24) on p0 o = nI (to o)
              rw [pk_un z]
              exact (g5 o (by omega)).2
          · rw [ol_succ (I := I) (a := nI (si i)) (b := p1) (fun j hj => by
              refine ⟨?_, ?_, ?_⟩ <;> rw [up2_ne _ _ (fun z => by omega), up2_ne _ _ (fun z => by omega), up2_ne _ _ (fun z => by omega)]) (up2_self _ _ _ _) (by rw [up2_ne _ _ (fun z => absurd z.1 (by decide)), up2_ne _ _ (fun z => absurd z.1 (by decide)), up2_self]) (by rw [up2_ne _ _ (fun z => absurd z.1 (by decide)), up2_self]), g6]
            unfold ml
            rw [List.range_succ, List.map_append, List.map_cons, List.map_nil]
            congr 1
            · refine List.map_congr_left (fun o ho => ?_)
              have ho := List.mem_range.mp ho
              show (A 3 (to o), A 25 o) = (A 3 (va_up to on i o), upd (A 25) on p1 o)
              rw [va_up_ne _ _ (by omega), pk_un (by omega)]
            · show [(nI (si i), p1)] = [(A 3 (va_up to on i on), upd (A 25) on p1 on)]
              rw [va_up_self, pk_us, (hK.hs2 i hi).2]
  · rcases h2 with ⟨hd, rfl⟩ | ⟨hp2, hd, rfl⟩ | ⟨t, hi2, ep2, hr2, hy⟩
    · exact ⟨rfl, fun q => absurd q (by decide), hK.thr⟩
    · first | exact (hd ⟨i, hi, ep⟩).elim | exact (hr hd).elim | exact (hc hp2).elim | exact (hc ⟨t, hi2, ep2⟩).elim | exact (hd hp).elim | exact (hr2 hc).elim
    · first | exact (hd ⟨i, hi, ep⟩).elim | exact (hr hd).elim | exact (hc hp2).elim | exact (hc ⟨t, hi2, ep2⟩).elim | exact (hd hp).elim | exact (hr2 hc).elim
  · rcases h2 with ⟨hd, rfl⟩ | ⟨hp2, hd, rfl⟩ | ⟨t, hi2, ep2, hr2, hy⟩
    · first | exact (hd ⟨i, hi, ep⟩).elim | exact (hr hd).elim | exact (hc hp2).elim | exact (hc ⟨t, hi2, ep2⟩).elim | exact (hd hp).elim | exact (hr2 hc).elim
    · exact ⟨rfl, fun q => absurd q (by decide), hK.thr⟩
    · first | exact (hd ⟨i, hi, ep⟩).elim | exact (hr hd).elim | exact (hc hp2).elim | exact (hc ⟨t, hi2, ep2⟩).elim | exact (hd hp).elim | exact (hr2 hc).elim

theorem eCnt_len (P : Nat → Bool) : ∀ k, eCnt P k = ((List.range k).filter P).length := by
  intro k
  induction k with
  | zero => rfl
  | succ k ih =>
    rw [List.range_succ, List.filter_append, List.length_append, ← ih]
    by_cases h : P k = true
    · rw [eCnt_pos h, List.filter_cons_of_pos h]; rfl
    · rw [eCnt_neg h, List.filter_cons_of_neg h]; rfl
/-- a pair of sort and day is due -/
def dub (q b : Int32) (z : Int32 × Int32) : Bool := decide (z.1 = q ∧ z.2 < b)
theorem ol_cnt {I : Nat → Nat → Int32} {oc : Nat} {q b : Int32} (ho : oc ≤ 16) : eCnt (eDu I oc q b) 16 = ((ol I oc).filter (dub q b)).length := by
  rw [eCnt_tail (m := oc) ho (fun t h1 h2 z => by have := (of_decide_eq_true z).1; omega), eCnt_len]
  unfold ol
  rw [List.filter_map, List.length_map, List.filter_filter]
  congr 1
  refine List.filter_congr (fun j hj => ?_)
  have hj := List.mem_range.mp hj
  unfold eDu dub
  simp [hj, and_comm]
theorem ol_len {I : Nat → Nat → Int32} {oc : Nat} (ho : oc ≤ 16) : eCnt (eOp I oc) 16 = (ol I oc).length := by
  rw [eCnt_tail (m := oc) ho (fun t h1 h2 z => by have := (of_decide_eq_true z).1; omega), eCnt_len]
  unfold ol
  rw [List.length_map]
  congr 1
  refine List.filter_congr (fun j hj => ?_)
  have hj := List.mem_range.mp hj
  unfold eOp
  simp [hj]
theorem ml_cnt {A : Nat → Nat → Int32} {to : Nat → Nat} {on : Nat} {q b : Int32} : eCnt (mDu A to q b) on = ((ml A to on).filter (dub q b)).length := by
  rw [eCnt_len]
  unfold ml
  rw [List.filter_map, List.length_map]
  rfl
theorem ol_ex {I : Nat → Nat → Int32} {oc : Nat} {q b : Int32} : (∃ t, t < oc ∧ eDu I oc q b t = true) ↔ ∃ z, z ∈ ol I oc ∧ dub q b z = true := by
  unfold ol
  constructor
  · rintro ⟨t, h1, h2⟩
    have h3 := of_decide_eq_true h2
    exact ⟨(I 11 t, I 12 t), List.mem_map.mpr ⟨t, List.mem_filter.mpr ⟨List.mem_range.mpr h1, decide_eq_true h3.2.1⟩, rfl⟩, decide_eq_true h3.2.2⟩
  · rintro ⟨z, h1, h2⟩
    obtain ⟨t, h3, rfl⟩ := List.mem_map.mp h1
    obtain ⟨h4, h5⟩ := List.mem_filter.mp h3
    exact ⟨t, List.mem_range.mp h4, decide_eq_true ⟨List.mem_range.mp h4, of_decide_eq_true h5, of_decide_eq_true h2⟩⟩
theorem ml_ex {A : Nat → Nat → Int32} {to : Nat → Nat} {on : Nat} {q b : Int32} : (∃ o, o < on ∧ mDu A to q b o = true) ↔ ∃ z, z ∈ ml A to on ∧ dub q b z = true := by
  unfold ml
  constructor
  · rintro ⟨t, h1, h2⟩
    exact ⟨_, List.mem_map.mpr ⟨t, List.mem_range.mpr h1, rfl⟩, h2⟩
  · rintro ⟨z, h1, h2⟩
    obtain ⟨t, h3, rfl⟩ := List.mem_map.mp h1
    exact ⟨t, List.mem_range.mp h3, h2⟩
theorem eCl_13 {I : Nat → Nat → Int32} {oc : Nat} {q b : Int32} : ∀ {k j : Nat}, j < k → eCl I oc q b k 13 j = if eDu I oc q b j = true then 1 else I 13 j := by
  intro k
  induction k with
  | zero => intro j h; omega
  | succ k ih =>
    intro j h
    show (if eDu I oc q b k = true then up2 (eCl I oc q b k) 13 k 1 else eCl I oc q b k) 13 j = _
    by_cases z : j = k
    · subst z
      by_cases hd : eDu I oc q b j = true
      · rw [if_pos hd, if_pos hd, up2_self]
      · rw [if_neg hd, if_neg hd]
        exact eCl_ne (Or.inr (Nat.le_refl _))
    · by_cases hd : eDu I oc q b k = true
      · rw [if_pos hd, up2_ne _ _ (fun w => z w.2)]
        exact ih (by omega)
      · rw [if_neg hd]
        exact ih (by omega)
theorem ol_cl {I : Nat → Nat → Int32} {oc : Nat} {q b : Int32} (ho : oc ≤ 16) : ol (eCl I oc q b 16) oc = (ol I oc).filter (fun z => !dub q b z) := by
  unfold ol
  rw [List.filter_map, List.filter_filter]
  rw [List.filter_congr (q := fun j => ((fun z => !dub q b z) ∘ fun j => (I 11 j, I 12 j)) j && decide (I 13 j = 0)) (fun j hj => by
    have hj := List.mem_range.mp hj
    rw [eCl_13 (by omega)]
    by_cases hd : eDu I oc q b j = true
    · have h3 := of_decide_eq_true hd
      rw [if_pos hd]
      have : dub q b (I 11 j, I 12 j) = true := decide_eq_true h3.2.2
      simp [this]
    · rw [if_neg hd]
      by_cases h0 : I 13 j = 0
      · have : ¬ dub q b (I 11 j, I 12 j) = true := fun w => hd (decide_eq_true ⟨hj, h0, of_decide_eq_true w⟩)
        simp [this, h0]
      · simp [h0])]
  refine List.map_congr_left (fun j hj => ?_)
  rw [eCl_ne (Or.inl (by decide)), eCl_ne (Or.inl (by decide))]
/-- those that stay, moved down -/
def cpg {α : Type} (f : Nat → α) (P : Nat → Bool) : Nat → Nat → α
  | 0 => f
  | k + 1 => if P k = true then va_up (cpg f P k) (eCnt P k) (f k) else cpg f P k
theorem cpg_pos {α : Type} {f : Nat → α} {P : Nat → Bool} {k : Nat} (h : P k = true) : cpg f P (k + 1) = va_up (cpg f P k) (eCnt P k) (f k) := if_pos h
theorem cpg_neg {α : Type} {f : Nat → α} {P : Nat → Bool} {k : Nat} (h : ¬ P k = true) : cpg f P (k + 1) = cpg f P k := if_neg h
theorem cpg_m {f : Nat → Int32} {P : Nat → Bool} : ∀ {k x : Nat}, mCp f P k x = cpg f P k x := by
  intro k
  induction k with
  | zero => intro x; rfl
  | succ k ih =>
    intro x
    by_cases h : P k = true
    · rw [mCp_pos h, cpg_pos h]
      by_cases z : x = eCnt P k
      · rw [z, pk_us, va_up_self]
      · rw [pk_un z, va_up_ne _ _ z, ih]
    · rw [mCp_neg h, cpg_neg h, ih]
theorem cpg_map {α β : Type} {f : Nat → α} {P : Nat → Bool} (g : α → β) : ∀ {k x : Nat}, g (cpg f P k x) = cpg (fun o => g (f o)) P k x := by
  intro k
  induction k with
  | zero => intro x; rfl
  | succ k ih =>
    intro x
    by_cases h : P k = true
    · rw [cpg_pos h, cpg_pos h]
      by_cases z : x = eCnt P k
      · rw [z, va_up_self, va_up_self]
      · rw [va_up_ne _ _ z, va_up_ne _ _ z, ih]
    · rw [cpg_neg h, cpg_neg h, ih]
theorem cpg_list {α : Type} (f : Nat → α) (P : Nat → Bool) : ∀ k, (List.range (eCnt P k)).map (cpg f P k) = ((List.range k).filter P).map f := by
  intro k
  induction k with
  | zero => rfl
  | succ k ih =>
    by_cases h : P k = true
    · rw [eCnt_pos h, List.range_succ, List.range_succ, List.filter_append, List.filter_cons_of_pos h, List.filter_nil, List.map_append, List.map_append, ← ih, cpg_pos h, List.map_cons, List.map_nil, List.map_cons, List.map_nil, va_up_self]
      congr 1
      refine List.map_congr_left (fun o ho => ?_)
      rw [va_up_ne _ _ (by have := List.mem_range.mp ho; omega)]
    · rw [eCnt_neg h, List.range_succ, List.filter_append, List.filter_cons_of_neg h, List.filter_nil, List.append_nil, cpg_neg h, ih]
theorem cpg_in {α : Type} {f : Nat → α} {P : Nat → Bool} {Q : α → Prop} : ∀ {k : Nat}, (∀ o, o < k → Q (f o)) → ∀ o, o < eCnt P k → Q (cpg f P k o) := by
  intro k
  induction k with
  | zero => intro _ o h; exact absurd h (Nat.not_lt_zero _)
  | succ k ih =>
    intro hq o ho
    by_cases h : P k = true
    · rw [eCnt_pos h] at ho
      rw [cpg_pos h]
      by_cases z : o = eCnt P k
      · rw [z, va_up_self]; exact hq k (by omega)
      · rw [va_up_ne _ _ z]
        exact ih (fun o ho => hq o (by omega)) o (by omega)
    · rw [eCnt_neg h] at ho
      rw [cpg_neg h]
      exact ih (fun o ho => hq o (by omega)) o ho
theorem cpg_pair {α β : Type} {f : Nat → α} {g : Nat → β} {P : Nat → Bool} : ∀ {k x : Nat}, (cpg f P k x, cpg g P k x) = cpg (fun o => (f o, g o)) P k x := by
  intro k
  induction k with
  | zero => intro x; rfl
  | succ k ih =>
    intro x
    by_cases h : P k = true
    · rw [cpg_pos h, cpg_pos h, cpg_pos h]
      by_cases z : x = eCnt P k
      · rw [z, va_up_self, va_up_self, va_up_self]
      · rw [va_up_ne _ _ z, va_up_ne _ _ z, va_up_ne _ _ z, ih]
    · rw [cpg_neg h, cpg_neg h, cpg_neg h, ih]
theorem eCnt_not {P Q : Nat → Bool} : ∀ {k : Nat}, (∀ o, o < k → P o = !Q o) → eCnt P k + eCnt Q k = k := by
  intro k
  induction k with
  | zero => intro _; rfl
  | succ k ih =>
    intro h
    have h1 := ih (fun o ho => h o (by omega))
    have h2 := h k (by omega)
    by_cases q : Q k = true
    · have p : ¬ P k = true := by rw [h2, q]; decide
      rw [eCnt_neg p, eCnt_pos q]; omega
    · have p : P k = true := by rw [h2]; simp [q]
      rw [eCnt_pos p, eCnt_neg q]; omega
/-- the model's orders when those with P stay -/
theorem kO_stay {I I1 : Nat → Nat → Int32} {tc oc : Nat} {A : Nat → Nat → Int32} {S : Nat → Int32} {on : Nat} {to : Nat → Nat} {P : Nat → Bool} (hO : kO I tc oc A S on to) (hol : ol I1 oc = ((List.range on).filter P).map (fun o => (A 3 (to o), A 25 o))) : kO I1 tc oc (va_up (va_up A 24 (mCp (A 24) P on)) 25 (mCp (A 25) P on)) (va_up (va_up S 0 0) 26 (nI (eCnt P on))) (eCnt P on) (cpg to P on) := by
  obtain ⟨g1, g2, g3, g4, g5, g6⟩ := hO
  have hle := eCnt_le P on
  refine ⟨g1, rfl, g3, by omega, fun o ho => ⟨cpg_in (Q := fun z => z < tc) (fun o ho => (g5 o ho).1) o ho, ?_⟩, hol.trans ?_⟩
  · show mCp (A 24) P on o = nI (cpg to P on o)
    rw [cpg_m]
    have h1 := cpg_in (f := fun o => (A 24 o, to o)) (P := P) (Q := fun z => z.1 = nI z.2) (k := on) (fun o ho => (g5 o ho).2) o ho
    rw [← cpg_pair] at h1
    exact h1
  · rw [← cpg_list]
    refine List.map_congr_left (fun o ho => ?_)
    rw [← cpg_pair]
    show (cpg (fun o => A 3 (to o)) P on o, cpg (fun o => A 25 o) P on o) = (A 3 (cpg to P on o), mCp (A 25) P on o)
    rw [cpg_map (fun z => A 3 z), cpg_m]
set_option maxRecDepth 100000 in
theorem cp_joined {n : Nat} {I : Nat → Nat → Int32} {J : Nat → Nat → Int64} {F : Nat → Nat → Nat → Int32} {si : Nat → Nat} {tc oc : Nat} {A : Nat → Nat → Int32} {B : Nat → Nat → Int64} {S : Nat → Int32} {sd : Int64} (hK : Kp n (I, J, F, si, tc, oc) (A, B, S) sd) (on : Nat) (to : Nat → Nat) (hO : kO I tc oc A S on to) {p0 p1 : Int32} {k : Int32} {o : Int64} {rv : Int32} {x1 : eS} {y1 : mSt} (h1 : R_L_joined I J F si tc oc p0 p1 k o x1) (h2 : R_M_joined A B S sd on to p0 p1 rv y1) : y1.2.2 0 = k ∧ (k = 0 → o = rv.toInt64) ∧ Kp (n + 1) x1 y1 sd := by
  rcases h1 with ⟨rfl, r9, ho1, ⟨i, hi, ep, hr, hx⟩⟩ | ⟨rfl, hc, rfl⟩ | ⟨rfl, ⟨hp, hc⟩, rfl⟩
  · rcases h2 with ⟨hd, rfl⟩ | ⟨hp2, hd, rfl⟩ | ⟨hp2, hr2, d, hdu, er2, rfl⟩
    · first | exact (hd ⟨i, hi, ep⟩).elim | exact (hr hd).elim | exact (hc hp2).elim | exact (hd hp).elim | exact (hr2 hc).elim
    · first | exact (hd ⟨i, hi, ep⟩).elim | exact (hr hd).elim | exact (hc hp2).elim | exact (hd hp).elim | exact (hr2 hc).elim
    · obtain ⟨h1, h2, h3, h4, h5, -⟩ := hK.thr (v := 0)
      have hO2 := hO
      obtain ⟨g1, g2, g3, g4, g5, g6⟩ := hO
      have hex : (∃ t, t < oc ∧ eDu I oc (nI i) (p1 + 2) t = true) ↔ ∃ o, o < on ∧ mDu A to p0 (p1 + 2) o = true := by
        rw [ol_ex, ml_ex, g6, ep]
      rcases hx with ⟨hno, er, rfl⟩ | ⟨hyes, er, rfl⟩
      · have hd0 : d = 0 := by
          rcases hdu with z | z
          · exact absurd (hex.mpr z.2) hno
          · exact z.1
        subst hd0
        have hall : ∀ o, mKp A to 0 p0 (p1 + 7) o = true := fun o => decide_eq_true (fun z => z.1 rfl)
        have hcn : eCnt (mKp A to 0 p0 (p1 + 7)) on = on := by
          rw [eCnt_len, List.filter_eq_self.mpr (fun o _ => hall o), List.length_range]
        refine ⟨rfl, fun _ => ?_, h1, h2, h3, h4, h5, _, _, kO_stay (I1 := I) hO2 ?_⟩
        · rw [ho1, er, er2, hcn, Nat.sub_self]; rfl
        · rw [List.filter_eq_self.mpr (fun o _ => hall o)]
          exact g6
      · have hd0 : ¬ d = 0 := by
          rcases hdu with z | z
          · rw [z.1]; decide
          · exact absurd (hex.mp hyes) z.2
        have hnot : ∀ o, o < on → mKp A to d p0 (p1 + 7) o = !mDu A to p0 (p1 + 7) o := fun o _ => by
          by_cases z : A 3 (to o) = p0 ∧ A 25 o < p1 + 7
          · rw [show mDu A to p0 (p1 + 7) o = true from decide_eq_true z]
            exact decide_eq_false (fun y => y ⟨hd0, z⟩)
          · rw [show mDu A to p0 (p1 + 7) o = false from decide_eq_false z]
            exact decide_eq_true (fun y => z y.2)
        refine ⟨rfl, fun _ => ?_, ?_, ?_, ?_, ?_, h5, _, _, kO_stay hO2 ?_⟩
        · have hs := eCnt_not hnot
          rw [ho1, er, er2, ol_cnt g1, g6, ← ep, ← ml_cnt, show on - eCnt (mKp A to d p0 (p1 + 7)) on = eCnt (mDu A to p0 (p1 + 7)) on by omega]
        · obtain ⟨b1, b2, b3, b4, b5, b6⟩ := h1
          unfold kA
          rw [eCl_ne (Or.inl (by decide)), eCl_ne (Or.inl (by decide)), eCl_ne (Or.inl (by decide)), eCl_ne (Or.inl (by decide)), eCl_ne (Or.inl (by decide))]
          exact ⟨b1, b2, b3, b4, b5, b6⟩
        · refine ⟨fun k hk => ?_, h2.2⟩
          rw [eCl_ne (Or.inl (by decide))]
          exact h2.1 k hk
        · intro j hj
          obtain ⟨a1, a2, a3, a4, a5⟩ := h3 j hj
          unfold kS1
          rw [eCl_ne (Or.inl (by decide)), eCl_ne (Or.inl (by decide)), eCl_ne (Or.inl (by decide))]
          exact ⟨a1, a2, a3, a4, a5⟩
        · refine ⟨h4.1, h4.2.1, fun j hj => ?_⟩
          obtain ⟨a1, a2, a3, a4, a5, a6⟩ := h4.2.2 j hj
          unfold kT1
          rw [eCl_ne (Or.inl (by decide)), eCl_ne (Or.inl (by decide)), eCl_ne (Or.inl (by decide)), eCl_ne (Or.inl (by decide)), eCl_ne (Or.inl (by decide)), eCl_ne (Or.inl (by decide))]
          exact ⟨a1, a2, a3, a4, a5, a6⟩
        · rw [ol_cl g1, g6, ← ep]
          unfold ml
          rw [List.filter_map]
          congr 1
          refine List.filter_congr (fun o ho => ?_)
          rw [hnot o (List.mem_range.mp ho)]
          rfl
  · rcases h2 with ⟨hd, rfl⟩ | ⟨hp2, hd, rfl⟩ | ⟨hp2, hr2, d, hdu, er2, rfl⟩
    · exact ⟨rfl, fun q => absurd q (by decide), hK.thr⟩
    · first | exact (hd ⟨i, hi, ep⟩).elim | exact (hr hd).elim | exact (hc hp2).elim | exact (hd hp).elim | exact (hr2 hc).elim
    · first | exact (hd ⟨i, hi, ep⟩).elim | exact (hr hd).elim | exact (hc hp2).elim | exact (hd hp).elim | exact (hr2 hc).elim
  · rcases h2 with ⟨hd, rfl⟩ | ⟨hp2, hd, rfl⟩ | ⟨hp2, hr2, d, hdu, er2, rfl⟩
    · first | exact (hd ⟨i, hi, ep⟩).elim | exact (hr hd).elim | exact (hc hp2).elim | exact (hd hp).elim | exact (hr2 hc).elim
    · exact ⟨rfl, fun q => absurd q (by decide), hK.thr⟩
    · first | exact (hd ⟨i, hi, ep⟩).elim | exact (hr hd).elim | exact (hc hp2).elim | exact (hd hp).elim | exact (hr2 hc).elim

theorem cp_open {n : Nat} {I : Nat → Nat → Int32} {J : Nat → Nat → Int64} {F : Nat → Nat → Nat → Int32} {si : Nat → Nat} {tc oc : Nat} {A : Nat → Nat → Int32} {B : Nat → Nat → Int64} {S : Nat → Int32} {sd : Int64} (hK : Kp n (I, J, F, si, tc, oc) (A, B, S) sd) {r b : Int32} {x1 : eS} {y1 : mSt} (h1 : R_E_open I J F si tc oc r x1) (h2 : R_M_open A B S sd b y1) : r = b ∧ Kp (n + 1) x1 y1 sd := by
  obtain ⟨er, rfl⟩ := h1
  obtain ⟨er2, rfl⟩ := h2
  refine ⟨?_, hK.thr⟩
  obtain ⟨-, -, -, -, -, on, to, g1, g2, g3, g4, g5, g6⟩ := hK
  rw [er, er2, g2, ol_len g1, g6]
  unfold ml
  rw [List.length_map, List.length_range]
theorem sq_lt {t u w N : Nat} (h1 : t * t * (w * w) ≤ N) (h2 : N < u * u * (w * w)) : t < u := by
  rcases Nat.lt_or_ge t u with z | z
  · exact z
  · have := Nat.mul_le_mul_right (w * w) (Nat.mul_le_mul z z)
    omega
theorem eTh_n {N w : Nat} (hw : w ≤ 1000) (hN : N < 2 ^ 63) {t : Nat} (h1 : t * t * (w * w) ≤ N) (h2 : N < (t + 1) * (t + 1) * (w * w)) : ∀ n y, y ≤ t → t < y + 2 ^ n → y + 2 ^ n ≤ 2 ^ 20 → eTh (lN N) (nI w) n (nI y) = nI t := by
  intro n
  induction n with
  | zero =>
    intro y a b c
    show nI y = nI t
    rw [show y = t by omega]
  | succ n ih =>
    intro y a b c
    have e2 : 2 ^ (n + 1) = 2 ^ n + 2 ^ n := by rw [Nat.pow_succ]; omega
    have hb1 : y + 2 ^ n ≤ 2 ^ 20 := by omega
    have hp : 0 < 2 ^ n := Nat.pow_pos (by decide)
    have es : (nI y + nI (2 ^ n)).toInt64 * (nI w).toInt64 * ((nI y + nI (2 ^ n)).toInt64 * (nI w).toInt64) = lN ((y + 2 ^ n) * (y + 2 ^ n) * (w * w)) := by
      rw [nI_add, nI_l (by omega), nI_l (by omega), lN_mul, lN_mul]
      congr 1
      rw [Nat.mul_mul_mul_comm]
    have hb : (y + 2 ^ n) * (y + 2 ^ n) * (w * w) ≤ 2 ^ 20 * 2 ^ 20 * (1000 * 1000) := bnd3 hb1 hb1 (bnd2 hw hw)
    rw [eTh_s, es]
    by_cases q : N < (y + 2 ^ n) * (y + 2 ^ n) * (w * w)
    · rw [if_pos ((pk_lLT hN (by omega)).mpr q)]
      exact ih y a (sq_lt h1 q) (by omega)
    · rw [if_neg (fun z => q ((pk_lLT hN (by omega)).mp z)), nI_add]
      have := sq_lt (Nat.not_lt.mp q) h2
      exact ih (y + 2 ^ n) (by omega) (by omega) (by omega)
set_option maxRecDepth 100000 in
theorem cp_chip {n : Nat} {I : Nat → Nat → Int32} {J : Nat → Nat → Int64} {F : Nat → Nat → Nat → Int32} {si : Nat → Nat} {tc oc : Nat} {A : Nat → Nat → Int32} {B : Nat → Nat → Int64} {S : Nat → Int32} {sd : Int64} (hK : Kp n (I, J, F, si, tc, oc) (A, B, S) sd)  {p0 p1 p2 p3 : Int32} {k : Int32} {o : Int64} {rv : Int32} {x1 : eS} {y1 : mSt} (h1 : R_L_chip I J F si tc oc p0 p1 p2 p3 k o x1) (h2 : R_M_chip A B S sd  p0 p1 p2 p3 rv y1) : y1.2.2 0 = k ∧ (k = 0 → o = rv.toInt64) ∧ Kp (n + 1) x1 y1 sd := by
  rcases h1 with ⟨rfl, r9, ho1, ⟨⟨hpe, hr, er⟩, rfl⟩⟩ | ⟨rfl, hc, rfl⟩ | ⟨rfl, ⟨hp, hc⟩, rfl⟩
  · rcases h2 with ⟨hd, rfl⟩ | ⟨hp2, hd, rfl⟩ | ⟨hpe2, hr2, a, d, w, x, ea, ed, ew, ha, hw1, hw2, hdw, hx6, hlo, hup, er2, rfl⟩
    · first | exact (hd hpe).elim | exact (hr hd).elim | exact (hc hp2).elim | exact (hc hpe2).elim | exact (hd hp).elim | exact (hr2 hc).elim
    · first | exact (hd hpe).elim | exact (hr hd).elim | exact (hc hp2).elim | exact (hc hpe2).elim | exact (hd hp).elim | exact (hr2 hc).elim
    · refine ⟨rfl, fun _ => ?_, hK.thr⟩
      have hsq := sq_le (a := a) hdw
      have hb18 := bnd3 ha ha (bnd2 hw2 hw2)
      have hN : 4 * a * a * d * (w - d) < 2 ^ 63 := by omega
      have es : eSq p0 p1 p2 = lN (4 * a * a * d * (w - d)) := by
        unfold eSq
        rw [ea, ed, ew, pk_sub hdw, nI_l (by omega), nI_l (by omega), nI_l (by omega), show (4 : Int64) = lN 4 from rfl, lN_mul, lN_mul, lN_mul, lN_mul]
      have et : eTh (eSq p0 p1 p2) p2 20 0 = nI x := by
        rw [es, ew]
        exact eTh_n hw2 hN hlo hup 20 0 (by omega) (by omega) (by omega)
      have ex2 : (nI x).toInt64 * p2.toInt64 * ((nI x).toInt64 * p2.toInt64) = lN (x * x * (w * w)) := by
        rw [ew, nI_l (by omega), nI_l (by omega), lN_mul, lN_mul]
        congr 1
        rw [Nat.mul_mul_mul_comm]
      have hxb := bnd3 hx6 hx6 (bnd2 hw2 hw2)
      rw [ho1, er, er2]
      unfold eChip
      rw [et, ex2, es]
      congr 1
      rcases hpe with z | z
      · rw [if_neg (fun y => absurd (z.symm.trans y.1) (by decide)), if_pos (Or.inl z)]
      · by_cases y : x * x * (w * w) = 4 * a * a * d * (w - d)
        · rw [if_neg (fun v => by
            have := (pk_lLT (by omega) hN).mp v.2
            omega), if_pos (Or.inr y)]
        · rw [if_pos ⟨z, (pk_lLT (by omega) hN).mpr (by omega)⟩, if_neg (fun v => v.elim (fun v => absurd (z.symm.trans v) (by decide)) y), nI_1]
  · rcases h2 with ⟨hd, rfl⟩ | ⟨hp2, hd, rfl⟩ | ⟨hpe2, hr2, a, d, w, x, ea, ed, ew, ha, hw1, hw2, hdw, hx6, hlo, hup, er2, rfl⟩
    · exact ⟨rfl, fun q => absurd q (by decide), hK.thr⟩
    · first | exact (hd hpe).elim | exact (hr hd).elim | exact (hc hp2).elim | exact (hc hpe2).elim | exact (hd hp).elim | exact (hr2 hc).elim
    · first | exact (hd hpe).elim | exact (hr hd).elim | exact (hc hp2).elim | exact (hc hpe2).elim | exact (hd hp).elim | exact (hr2 hc).elim
  · rcases h2 with ⟨hd, rfl⟩ | ⟨hp2, hd, rfl⟩ | ⟨hpe2, hr2, a, d, w, x, ea, ed, ew, ha, hw1, hw2, hdw, hx6, hlo, hup, er2, rfl⟩
    · first | exact (hd hpe).elim | exact (hr hd).elim | exact (hc hp2).elim | exact (hc hpe2).elim | exact (hd hp).elim | exact (hr2 hc).elim
    · exact ⟨rfl, fun q => absurd q (by decide), hK.thr⟩
    · first | exact (hd hpe).elim | exact (hr hd).elim | exact (hc hp2).elim | exact (hc hpe2).elim | exact (hd hp).elim | exact (hr2 hc).elim

