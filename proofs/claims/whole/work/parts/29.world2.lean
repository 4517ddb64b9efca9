theorem gE_ad {dA : Nat → ClassId} {ad ad1 : Nat → Nat} {I : Nat → Nat → Int32} {J : Nat → Nat → Int64} {F : Nat → Nat → Nat → Int32} {si : Nat → Nat} {tc oc : Nat} {G0 : mG} (h0 : ∀ x, x < 24 → ad1 x = ad x) (h1 : ∀ i, i < tc → ad1 (100 + i) = ad (100 + i)) (h2 : ∀ i, i < tc → ad1 (200 + i) = ad (200 + i)) (h3 : ∀ i, i < tc → ad1 (300 + i) = ad (300 + i)) (h4 : ∀ i, i < oc → ad1 (400 + i) = ad (400 + i)) (hs : ∀ i, i < tc → si i < 4) : gE dA ad1 I J F si tc oc G0 = gE dA ad I J F si tc oc G0 := by
  funext r
  unfold gE
  by_cases q0 : r < 1000
  · rw [if_pos q0, if_pos q0]
    by_cases q1 : r = 0
    · rw [if_pos q1, if_pos q1]
      rw [h0 1 (by decide), h0 2 (by decide), h0 3 (by decide), h0 4 (by decide), h0 5 (by decide)]
    rw [if_neg q1, if_neg q1]
    by_cases q2 : r = 1
    · rw [if_pos q2, if_pos q2]
    rw [if_neg q2, if_neg q2]
    by_cases q3 : r = 2
    · rw [if_pos q3, if_pos q3]
      congr 8
      funext i
      by_cases hi : i < 4
      · rw [if_pos hi, if_pos hi, h0 (10 + i) (by omega)]
      · rw [if_neg hi, if_neg hi]
    rw [if_neg q3, if_neg q3]
    by_cases q4 : r = 3
    · rw [if_pos q4, if_pos q4]
      congr 8
      funext i
      by_cases hi : i < tc
      · rw [if_pos hi, if_pos hi, h1 i hi]
      · rw [if_neg hi, if_neg hi]
    rw [if_neg q4, if_neg q4]
    by_cases q5 : r = 4
    · rw [if_pos q5, if_pos q5]
      congr 8
      funext i
      by_cases hi : i < oc
      · rw [if_pos hi, if_pos hi, h4 i hi]
      · rw [if_neg hi, if_neg hi]
    rw [if_neg q5, if_neg q5]
    by_cases q6 : r = 5
    · rw [if_pos q6, if_pos q6]
    rw [if_neg q6, if_neg q6]
    by_cases q7 : r < 10
    · rw [if_pos q7, if_pos q7]
    rw [if_neg q7, if_neg q7]
    by_cases q8 : r < 14
    · rw [if_pos q8, if_pos q8]
      rw [h0 (20 + (r - 10)) (by omega)]
    rw [if_neg q8, if_neg q8]
    by_cases q9 : r < 20
    · rw [if_pos q9, if_pos q9]
    rw [if_neg q9, if_neg q9]
    by_cases q10 : r < 24
    · rw [if_pos q10, if_pos q10]
    rw [if_neg q10, if_neg q10]
    by_cases q11 : r < 100
    · rw [if_pos q11, if_pos q11]
    rw [if_neg q11, if_neg q11]
    by_cases q12 : r < 100 + tc
    · rw [if_pos q12, if_pos q12]
      rw [h0 (10 + si (r - 100)) (by have := hs (r - 100) (by omega); omega), h2 (r - 100) (by omega)]
    rw [if_neg q12, if_neg q12]
    by_cases q13 : r < 200
    · rw [if_pos q13, if_pos q13]
    rw [if_neg q13, if_neg q13]
    by_cases q14 : r < 200 + tc
    · rw [if_pos q14, if_pos q14]
      rw [h3 (r - 200) (by omega)]
    rw [if_neg q14, if_neg q14]
  · rw [if_neg q0, if_neg q0]

theorem gE_norder {dA : Nat → ClassId} {ad : Nat → Nat} {I : Nat → Nat → Int32} {J : Nat → Nat → Int64} {F : Nat → Nat → Nat → Int32} {si : Nat → Nat} {tc oc : Nat} {G0 : mG} (ho : oc < 16) (ht : tc ≤ 12) (v w : Int32) : va_up (va_up (va_up (gE dA ad I J F si tc oc G0) (400 + oc) (some (.inr (0, [.int v, .int w, .int 0])))) (4) (some (.inl (dA 5, 16, .inr (.inr (.inr (.inr (fun i => if i < oc + 1 then some (ad (400 + i)) else none)))))))) (0) (some (.inr (5, [.int (I 0 0), .ref (ad 1), .ref (ad 2), .ref (ad 3), .ref (ad 4), .ref (ad 5), .int (nI tc), .int (nI (oc + 1))]))) = gE dA ad (up2 (up2 (up2 I 11 oc v) 12 oc w) 13 oc 0) J F si tc (oc + 1) G0 := by
  funext r
  by_cases p0 : r = 400 + oc
  · rw [p0, va_up_ne _ _ (show ¬ 400 + oc = 0 by omega), va_up_ne _ _ (show ¬ 400 + oc = 4 by omega), va_up_self]
    rw [gE_od (by omega) ht (by omega)]
    simp [up2]
  by_cases p1 : r = 4
  · rw [p1, va_up_ne _ _ (show ¬ 4 = 0 by omega), va_up_self]
    rw [gE_c4]
  by_cases p2 : r = 0
  · rw [p2, va_up_self]
    rw [gE_c0]
    simp [up2]
  rw [va_up_ne _ _ p2, va_up_ne _ _ p1, va_up_ne _ _ p0]
  unfold gE
  by_cases q0 : r < 1000
  · rw [if_pos q0, if_pos q0]
    by_cases q1 : r = 0
    · rw [if_pos q1, if_pos q1] <;>
      first | (simp [up2]; done) | (simp [up2_row]; done) | (exfalso; omega) | (have h9 : ¬ r - 0 = oc := (by omega); simp [up2, h9]; done)
    rw [if_neg q1, if_neg q1]
    by_cases q2 : r = 1
    · rw [if_pos q2, if_pos q2] <;>
      first | (simp [up2]; done) | (simp [up2_row]; done) | (exfalso; omega) | (have h9 : ¬ r - 0 = oc := (by omega); simp [up2, h9]; done)
    rw [if_neg q2, if_neg q2]
    by_cases q3 : r = 2
    · rw [if_pos q3, if_pos q3] <;>
      first | (simp [up2]; done) | (simp [up2_row]; done) | (exfalso; omega) | (have h9 : ¬ r - 0 = oc := (by omega); simp [up2, h9]; done)
    rw [if_neg q3, if_neg q3]
    by_cases q4 : r = 3
    · rw [if_pos q4, if_pos q4] <;>
      first | (simp [up2]; done) | (simp [up2_row]; done) | (exfalso; omega) | (have h9 : ¬ r - 0 = oc := (by omega); simp [up2, h9]; done)
    rw [if_neg q4, if_neg q4]
    by_cases q5 : r = 4
    · rw [if_pos q5, if_pos q5] <;>
      first | (simp [up2]; done) | (simp [up2_row]; done) | (exfalso; omega) | (have h9 : ¬ r - 0 = oc := (by omega); simp [up2, h9]; done)
    rw [if_neg q5, if_neg q5]
    by_cases q6 : r = 5
    · rw [if_pos q6, if_pos q6] <;>
      first | (simp [up2]; done) | (simp [up2_row]; done) | (exfalso; omega) | (have h9 : ¬ r - 0 = oc := (by omega); simp [up2, h9]; done)
    rw [if_neg q6, if_neg q6]
    by_cases q7 : r < 10
    · rw [if_pos q7, if_pos q7]
    rw [if_neg q7, if_neg q7]
    by_cases q8 : r < 14
    · rw [if_pos q8, if_pos q8] <;>
      first | (simp [up2]; done) | (simp [up2_row]; done) | (exfalso; omega) | (have h9 : ¬ r - 10 = oc := (by omega); simp [up2, h9]; done)
    rw [if_neg q8, if_neg q8]
    by_cases q9 : r < 20
    · rw [if_pos q9, if_pos q9]
    rw [if_neg q9, if_neg q9]
    by_cases q10 : r < 24
    · rw [if_pos q10, if_pos q10] <;>
      first | (simp [up2]; done) | (simp [up2_row]; done) | (exfalso; omega) | (have h9 : ¬ r - 20 = oc := (by omega); simp [up2, h9]; done)
    rw [if_neg q10, if_neg q10]
    by_cases q11 : r < 100
    · rw [if_pos q11, if_pos q11]
    rw [if_neg q11, if_neg q11]
    by_cases q12 : r < 100 + tc
    · rw [if_pos q12, if_pos q12] <;>
      first | (simp [up2]; done) | (simp [up2_row]; done) | (exfalso; omega) | (have h9 : ¬ r - 100 = oc := (by omega); simp [up2, h9]; done)
    rw [if_neg q12, if_neg q12]
    by_cases q13 : r < 200
    · rw [if_pos q13, if_pos q13]
    rw [if_neg q13, if_neg q13]
    by_cases q14 : r < 200 + tc
    · rw [if_pos q14, if_pos q14] <;>
      first | (simp [up2]; done) | (simp [up2_row]; done) | (exfalso; omega) | (have h9 : ¬ r - 200 = oc := (by omega); simp [up2, h9]; done)
    rw [if_neg q14, if_neg q14]
    by_cases q15 : r < 300
    · rw [if_pos q15, if_pos q15]
    rw [if_neg q15, if_neg q15]
    by_cases q16 : r < 300 + tc
    · rw [if_pos q16, if_pos q16] <;>
      first | (simp [up2]; done) | (simp [up2_row]; done) | (exfalso; omega) | (have h9 : ¬ r - 300 = oc := (by omega); simp [up2, h9]; done)
    rw [if_neg q16, if_neg q16]
    by_cases q17 : r < 400
    · rw [if_pos q17, if_pos q17]
    rw [if_neg q17, if_neg q17]
    by_cases q18 : r < 400 + oc
    · rw [if_pos q18, if_pos (show r < 400 + (oc + 1) by omega)] <;>
      first | (have h9 : ¬ r - 400 = oc := (by omega); simp [up2, va_up, h9]; done) | (have h9 : ¬ r - 400 = oc := (by omega); simp [up2, up2_row, va_up, h9]; done) | (exfalso; omega)
    rw [if_neg q18, if_neg (show ¬ r < 400 + (oc + 1) by omega)]
  · rw [if_neg q0, if_neg q0]

theorem gE_ntool {dA : Nat → ClassId} {ad : Nat → Nat} {I : Nat → Nat → Int32} {J : Nat → Nat → Int64} {F : Nat → Nat → Nat → Int32} {si : Nat → Nat} {tc oc : Nat} {G0 : mG} (ht : tc < 12) (ho : oc ≤ 16) (hs : ∀ i, i < tc → si i < 4) (ln le : Int32) (i : Nat) : va_up (va_up (va_up (va_up (va_up (gE dA ad I J F si tc oc G0) (200 + tc) (some (.inr (1, [.ref (ad (300 + tc)), .int 0, .int (-1)])))) (300 + tc) (some (.inl (dA 0, 24, .inl (fun _ => 0))))) (100 + tc) (some (.inr (4, [.ref (ad (10 + i)), .int le, .ref (ad (200 + tc)), .int ln, .long 0, .long 0, .long 0, .int 0, .int 0])))) (3) (some (.inl (dA 4, 12, .inr (.inr (.inr (.inr (fun i => if i < tc + 1 then some (ad (100 + i)) else none)))))))) (0) (some (.inr (5, [.int (I 0 0), .ref (ad 1), .ref (ad 2), .ref (ad 3), .ref (ad 4), .ref (ad 5), .int (nI (tc + 1)), .int (nI oc)]))) = gE dA ad (up2 (up2 (up2 (up2 (up2 (up2 I 5 tc ln) 6 tc le) 7 tc 0) 8 tc 0) 9 tc 0) 10 tc (-1)) (up2 (up2 (up2 J 1 tc 0) 2 tc 0) 3 tc 0) (up2 F 1 tc (fun _ => 0)) (va_up si tc i) (tc + 1) oc G0 := by
  funext r
  by_cases p0 : r = 200 + tc
  · rw [p0, va_up_ne _ _ (show ¬ 200 + tc = 0 by omega), va_up_ne _ _ (show ¬ 200 + tc = 3 by omega), va_up_ne _ _ (show ¬ 200 + tc = 100 + tc by omega), va_up_ne _ _ (show ¬ 200 + tc = 300 + tc by omega), va_up_self]
    rw [gE_rd (by omega) (by omega)]
    simp [up2]
  by_cases p1 : r = 300 + tc
  · rw [p1, va_up_ne _ _ (show ¬ 300 + tc = 0 by omega), va_up_ne _ _ (show ¬ 300 + tc = 3 by omega), va_up_ne _ _ (show ¬ 300 + tc = 100 + tc by omega), va_up_self]
    rw [gE_la (by omega) (by omega)]
    simp [up2]
  by_cases p2 : r = 100 + tc
  · rw [p2, va_up_ne _ _ (show ¬ 100 + tc = 0 by omega), va_up_ne _ _ (show ¬ 100 + tc = 3 by omega), va_up_self]
    rw [gE_to (by omega) (by omega)]
    simp [up2, va_up]
  by_cases p3 : r = 3
  · rw [p3, va_up_ne _ _ (show ¬ 3 = 0 by omega), va_up_self]
    rw [gE_c3]
  by_cases p4 : r = 0
  · rw [p4, va_up_self]
    rw [gE_c0]
    simp [up2]
  rw [va_up_ne _ _ p4, va_up_ne _ _ p3, va_up_ne _ _ p2, va_up_ne _ _ p1, va_up_ne _ _ p0]
  unfold gE
  by_cases q0 : r < 1000
  · rw [if_pos q0, if_pos q0]
    by_cases q1 : r = 0
    · rw [if_pos q1, if_pos q1] <;>
      first | (simp [up2]; done) | (simp [up2_row]; done) | (exfalso; omega) | (have h9 : ¬ r - 0 = tc := (by omega); simp [up2, h9]; done)
    rw [if_neg q1, if_neg q1]
    by_cases q2 : r = 1
    · rw [if_pos q2, if_pos q2] <;>
      first | (simp [up2]; done) | (simp [up2_row]; done) | (exfalso; omega) | (have h9 : ¬ r - 0 = tc := (by omega); simp [up2, h9]; done)
    rw [if_neg q2, if_neg q2]
    by_cases q3 : r = 2
    · rw [if_pos q3, if_pos q3] <;>
      first | (simp [up2]; done) | (simp [up2_row]; done) | (exfalso; omega) | (have h9 : ¬ r - 0 = tc := (by omega); simp [up2, h9]; done)
    rw [if_neg q3, if_neg q3]
    by_cases q4 : r = 3
    · rw [if_pos q4, if_pos q4] <;>
      first | (simp [up2]; done) | (simp [up2_row]; done) | (exfalso; omega) | (have h9 : ¬ r - 0 = tc := (by omega); simp [up2, h9]; done)
    rw [if_neg q4, if_neg q4]
    by_cases q5 : r = 4
    · rw [if_pos q5, if_pos q5] <;>
      first | (simp [up2]; done) | (simp [up2_row]; done) | (exfalso; omega) | (have h9 : ¬ r - 0 = tc := (by omega); simp [up2, h9]; done)
    rw [if_neg q5, if_neg q5]
    by_cases q6 : r = 5
    · rw [if_pos q6, if_pos q6] <;>
      first | (simp [up2]; done) | (simp [up2_row]; done) | (exfalso; omega) | (have h9 : ¬ r - 0 = tc := (by omega); simp [up2, h9]; done)
    rw [if_neg q6, if_neg q6]
    by_cases q7 : r < 10
    · rw [if_pos q7, if_pos q7]
    rw [if_neg q7, if_neg q7]
    by_cases q8 : r < 14
    · rw [if_pos q8, if_pos q8] <;>
      first | (simp [up2]; done) | (simp [up2_row]; done) | (exfalso; omega) | (have h9 : ¬ r - 10 = tc := (by omega); simp [up2, h9]; done)
    rw [if_neg q8, if_neg q8]
    by_cases q9 : r < 20
    · rw [if_pos q9, if_pos q9]
    rw [if_neg q9, if_neg q9]
    by_cases q10 : r < 24
    · rw [if_pos q10, if_pos q10] <;>
      first | (simp [up2]; done) | (simp [up2_row]; done) | (exfalso; omega) | (have h9 : ¬ r - 20 = tc := (by omega); simp [up2, h9]; done)
    rw [if_neg q10, if_neg q10]
    by_cases q11 : r < 100
    · rw [if_pos q11, if_pos q11]
    rw [if_neg q11, if_neg q11]
    by_cases q12 : r < 100 + tc
    · rw [if_pos q12, if_pos (show r < 100 + (tc + 1) by omega)] <;>
      first | (have h9 : ¬ r - 100 = tc := (by omega); simp [up2, va_up, h9]; done) | (have h9 : ¬ r - 100 = tc := (by omega); simp [up2, up2_row, va_up, h9]; done) | (exfalso; omega)
    rw [if_neg q12, if_neg (show ¬ r < 100 + (tc + 1) by omega)]
    by_cases q13 : r < 200
    · rw [if_pos q13, if_pos q13]
    rw [if_neg q13, if_neg q13]
    by_cases q14 : r < 200 + tc
    · rw [if_pos q14, if_pos (show r < 200 + (tc + 1) by omega)] <;>
      first | (have h9 : ¬ r - 200 = tc := (by omega); simp [up2, va_up, h9]; done) | (have h9 : ¬ r - 200 = tc := (by omega); simp [up2, up2_row, va_up, h9]; done) | (exfalso; omega)
    rw [if_neg q14, if_neg (show ¬ r < 200 + (tc + 1) by omega)]
    by_cases q15 : r < 300
    · rw [if_pos q15, if_pos q15]
    rw [if_neg q15, if_neg q15]
    by_cases q16 : r < 300 + tc
    · rw [if_pos q16, if_pos (show r < 300 + (tc + 1) by omega)] <;>
      first | (have h9 : ¬ r - 300 = tc := (by omega); simp [up2, va_up, h9]; done) | (have h9 : ¬ r - 300 = tc := (by omega); simp [up2, up2_row, va_up, h9]; done) | (exfalso; omega)
    rw [if_neg q16, if_neg (show ¬ r < 300 + (tc + 1) by omega)]
    by_cases q17 : r < 400
    · rw [if_pos q17, if_pos q17]
    rw [if_neg q17, if_neg q17]
    by_cases q18 : r < 400 + oc
    · rw [if_pos q18, if_pos q18] <;>
      first | (simp [up2]; done) | (simp [up2_row]; done) | (exfalso; omega) | (have h9 : ¬ r - 400 = tc := (by omega); simp [up2, h9]; done)
    rw [if_neg q18, if_neg q18]
  · rw [if_neg q0, if_neg q0]

theorem gE_n1 {dA : Nat → ClassId} {ad : Nat → Nat} {I : Nat → Nat → Int32} {J : Nat → Nat → Int64} {F : Nat → Nat → Nat → Int32} {si : Nat → Nat} {tc oc : Nat} {G0 : mG} (h : tc < 12) : gE dA ad I J F si tc oc G0 (100 + tc) = none := by
  unfold gE
  rw [if_pos (show 100 + tc < 1000 by omega), if_neg (show ¬ 100 + tc = 0 by omega), if_neg (show ¬ 100 + tc = 1 by omega), if_neg (show ¬ 100 + tc = 2 by omega), if_neg (show ¬ 100 + tc = 3 by omega), if_neg (show ¬ 100 + tc = 4 by omega), if_neg (show ¬ 100 + tc = 5 by omega), if_neg (show ¬ 100 + tc < 10 by omega), if_neg (show ¬ 100 + tc < 14 by omega), if_neg (show ¬ 100 + tc < 20 by omega), if_neg (show ¬ 100 + tc < 24 by omega), if_neg (show ¬ 100 + tc < 100 by omega), if_neg (show ¬ 100 + tc < 100 + tc by omega), if_pos (show 100 + tc < 200 by omega)]
theorem gE_n2 {dA : Nat → ClassId} {ad : Nat → Nat} {I : Nat → Nat → Int32} {J : Nat → Nat → Int64} {F : Nat → Nat → Nat → Int32} {si : Nat → Nat} {tc oc : Nat} {G0 : mG} (h : tc < 12) : gE dA ad I J F si tc oc G0 (200 + tc) = none := by
  unfold gE
  rw [if_pos (show 200 + tc < 1000 by omega), if_neg (show ¬ 200 + tc = 0 by omega), if_neg (show ¬ 200 + tc = 1 by omega), if_neg (show ¬ 200 + tc = 2 by omega), if_neg (show ¬ 200 + tc = 3 by omega), if_neg (show ¬ 200 + tc = 4 by omega), if_neg (show ¬ 200 + tc = 5 by omega), if_neg (show ¬ 200 + tc < 10 by omega), if_neg (show ¬ 200 + tc < 14 by omega), if_neg (show ¬ 200 + tc < 20 by omega), if_neg (show ¬ 200 + tc < 24 by omega), if_neg (show ¬ 200 + tc < 100 by omega), if_neg (show ¬ 200 + tc < 100 + tc by omega), if_neg (show ¬ 200 + tc < 200 by omega), if_neg (show ¬ 200 + tc < 200 + tc by omega), if_pos (show 200 + tc < 300 by omega)]
theorem gE_n3 {dA : Nat → ClassId} {ad : Nat → Nat} {I : Nat → Nat → Int32} {J : Nat → Nat → Int64} {F : Nat → Nat → Nat → Int32} {si : Nat → Nat} {tc oc : Nat} {G0 : mG} (h : tc < 12) : gE dA ad I J F si tc oc G0 (300 + tc) = none := by
  unfold gE
  rw [if_pos (show 300 + tc < 1000 by omega), if_neg (show ¬ 300 + tc = 0 by omega), if_neg (show ¬ 300 + tc = 1 by omega), if_neg (show ¬ 300 + tc = 2 by omega), if_neg (show ¬ 300 + tc = 3 by omega), if_neg (show ¬ 300 + tc = 4 by omega), if_neg (show ¬ 300 + tc = 5 by omega), if_neg (show ¬ 300 + tc < 10 by omega), if_neg (show ¬ 300 + tc < 14 by omega), if_neg (show ¬ 300 + tc < 20 by omega), if_neg (show ¬ 300 + tc < 24 by omega), if_neg (show ¬ 300 + tc < 100 by omega), if_neg (show ¬ 300 + tc < 100 + tc by omega), if_neg (show ¬ 300 + tc < 200 by omega), if_neg (show ¬ 300 + tc < 200 + tc by omega), if_neg (show ¬ 300 + tc < 300 by omega), if_neg (show ¬ 300 + tc < 300 + tc by omega), if_pos (show 300 + tc < 400 by omega)]
theorem gE_n4 {dA : Nat → ClassId} {ad : Nat → Nat} {I : Nat → Nat → Int32} {J : Nat → Nat → Int64} {F : Nat → Nat → Nat → Int32} {si : Nat → Nat} {tc oc : Nat} {G0 : mG} (h : oc < 16) (ht : tc ≤ 12) : gE dA ad I J F si tc oc G0 (400 + oc) = none := by
  unfold gE
  rw [if_pos (show 400 + oc < 1000 by omega), if_neg (show ¬ 400 + oc = 0 by omega), if_neg (show ¬ 400 + oc = 1 by omega), if_neg (show ¬ 400 + oc = 2 by omega), if_neg (show ¬ 400 + oc = 3 by omega), if_neg (show ¬ 400 + oc = 4 by omega), if_neg (show ¬ 400 + oc = 5 by omega), if_neg (show ¬ 400 + oc < 10 by omega), if_neg (show ¬ 400 + oc < 14 by omega), if_neg (show ¬ 400 + oc < 20 by omega), if_neg (show ¬ 400 + oc < 24 by omega), if_neg (show ¬ 400 + oc < 100 by omega), if_neg (show ¬ 400 + oc < 100 + tc by omega), if_neg (show ¬ 400 + oc < 200 by omega), if_neg (show ¬ 400 + oc < 200 + tc by omega), if_neg (show ¬ 400 + oc < 300 by omega), if_neg (show ¬ 400 + oc < 300 + tc by omega), if_neg (show ¬ 400 + oc < 400 by omega), if_neg (show ¬ 400 + oc < 400 + oc by omega)]
theorem gE_ord {dA : Nat → ClassId} {ad : Nat → Nat} {I : Nat → Nat → Int32} {J : Nat → Nat → Int64} {F : Nat → Nat → Nat → Int32} {si : Nat → Nat} {tc oc : Nat} {G0 : mG} (ho : oc < 16) (ht : tc ≤ 12) (hs : ∀ i, i < tc → si i < 4) (q : Nat) (v w : Int32) : va_up (va_up (va_up (gE dA ad I J F si tc oc G0) (400 + oc) (some (.inr (0, [.int v, .int w, .int 0])))) 4 (some (.inl (dA 5, 16, .inr (.inr (.inr (.inr (va_up (fun i => if i < oc then some (ad (400 + i)) else none) oc (some q))))))))) 0 (some (.inr (5, [.int (I 0 0), .ref (ad 1), .ref (ad 2), .ref (ad 3), .ref (ad 4), .ref (ad 5), .int (nI tc), .int (nI oc + 1)]))) = gE dA (va_up ad (400 + oc) q) (up2 (up2 (up2 I 11 oc v) 12 oc w) 13 oc 0) J F si tc (oc + 1) G0 := by
  have e1 : ∀ x, x ≠ 400 + oc → va_up ad (400 + oc) q x = ad x := fun x h => va_up_ne _ _ h
  have e2 : (fun i => if i < oc + 1 then some (va_up ad (400 + oc) q (400 + i)) else none) = va_up (fun i => if i < oc then some (ad (400 + i)) else none) oc (some q) := by
    funext i
    by_cases h : i = oc
    · rw [h, va_up_self, va_up_self, if_pos (by omega)]
    · rw [va_up_ne _ _ h]
      by_cases h2 : i < oc
      · rw [if_pos h2, if_pos (by omega), e1 _ (by omega)]
      · rw [if_neg h2, if_neg (by omega)]
  rw [← gE_norder (ad := va_up ad (400 + oc) q) ho ht v w, gE_ad (ad := ad) (ad1 := va_up ad (400 + oc) q) (fun x h => e1 x (by omega)) (fun i h => e1 _ (by omega)) (fun i h => e1 _ (by omega)) (fun i h => e1 _ (by omega)) (fun i h => e1 _ (by omega)) hs, e2, e1 1 (by omega), e1 2 (by omega), e1 3 (by omega), e1 4 (by omega), e1 5 (by omega), nI_1]
theorem gE_tl {dA : Nat → ClassId} {ad : Nat → Nat} {I : Nat → Nat → Int32} {J : Nat → Nat → Int64} {F : Nat → Nat → Nat → Int32} {si : Nat → Nat} {tc oc : Nat} {G0 : mG} (ht : tc < 12) (ho : oc ≤ 16) (hs : ∀ i, i < tc → si i < 4) (q0 q1 q2 : Nat) (ln le : Int32) (i : Nat) (hi : i < 4) : va_up (va_up (va_up (va_up (va_up (gE dA ad I J F si tc oc G0) (200 + tc) (some (.inr (1, [.ref q2, .int 0, .int (-1)])))) (300 + tc) (some (.inl (dA 0, 24, .inl (fun _ => 0))))) (100 + tc) (some (.inr (4, [.ref (ad (10 + i)), .int le, .ref q1, .int ln, .long 0, .long 0, .long 0, .int 0, .int 0])))) 3 (some (.inl (dA 4, 12, .inr (.inr (.inr (.inr (va_up (fun i => if i < tc then some (ad (100 + i)) else none) tc (some q0))))))))) 0 (some (.inr (5, [.int (I 0 0), .ref (ad 1), .ref (ad 2), .ref (ad 3), .ref (ad 4), .ref (ad 5), .int (nI tc + 1), .int (nI oc)]))) = gE dA (va_up (va_up (va_up ad (100 + tc) q0) (200 + tc) q1) (300 + tc) q2) (up2 (up2 (up2 (up2 (up2 (up2 I 5 tc ln) 6 tc le) 7 tc 0) 8 tc 0) 9 tc 0) 10 tc (-1)) (up2 (up2 (up2 J 1 tc 0) 2 tc 0) 3 tc 0) (up2 F 1 tc (fun _ => 0)) (va_up si tc i) (tc + 1) oc G0 := by
  obtain ⟨ad1, hd⟩ : ∃ z, z = va_up (va_up (va_up ad (100 + tc) q0) (200 + tc) q1) (300 + tc) q2 := ⟨_, rfl⟩
  rw [← hd]
  have e1 : ∀ x, x ≠ 100 + tc → x ≠ 200 + tc → x ≠ 300 + tc → ad1 x = ad x := fun x h h2 h3 => by rw [hd, va_up_ne _ _ h3, va_up_ne _ _ h2, va_up_ne _ _ h]
  have z0 : ad1 (100 + tc) = q0 := by rw [hd, va_up_ne _ _ (by omega), va_up_ne _ _ (by omega), va_up_self]
  have z1 : ad1 (200 + tc) = q1 := by rw [hd, va_up_ne _ _ (by omega), va_up_self]
  have z2 : ad1 (300 + tc) = q2 := by rw [hd, va_up_self]
  have e2 : (fun i => if i < tc + 1 then some (ad1 (100 + i)) else none) = va_up (fun i => if i < tc then some (ad (100 + i)) else none) tc (some q0) := by
    funext j
    by_cases h : j = tc
    · rw [h, va_up_self, if_pos (by omega), z0]
    · rw [va_up_ne _ _ h]
      by_cases h2 : j < tc
      · rw [if_pos h2, if_pos (by omega), e1 _ (by omega) (by omega) (by omega)]
      · rw [if_neg h2, if_neg (by omega)]
  rw [← gE_ntool (ad := ad1) ht ho hs ln le i, gE_ad (ad := ad) (ad1 := ad1) (fun x h => e1 x (by omega) (by omega) (by omega)) (fun i h => e1 _ (by omega) (by omega) (by omega)) (fun i h => e1 _ (by omega) (by omega) (by omega)) (fun i h => e1 _ (by omega) (by omega) (by omega)) (fun i h => e1 _ (by omega) (by omega) (by omega)) hs, e2, z1, z2, e1 (10 + i) (by omega) (by omega) (by omega), e1 1 (by omega) (by omega) (by omega), e1 2 (by omega) (by omega) (by omega), e1 3 (by omega) (by omega) (by omega), e1 4 (by omega) (by omega) (by omega), e1 5 (by omega) (by omega) (by omega), nI_1]
