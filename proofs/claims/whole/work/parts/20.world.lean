def up2 {α : Type} (f : Nat → Nat → α) (a i : Nat) (v : α) : Nat → Nat → α := fun b j => if b = a ∧ j = i then v else f b j
theorem up2_id {α : Type} (f : Nat → Nat → α) (a i : Nat) : up2 f a i (f a i) = f := by
  funext b j
  unfold up2
  by_cases h : b = a ∧ j = i
  · rw [if_pos h, h.1, h.2]
  · rw [if_neg h]
theorem up2_self {α : Type} (f : Nat → Nat → α) (a i : Nat) (v : α) : up2 f a i v a i = v := by simp [up2]
theorem up2_row {α : Type} (f : Nat → Nat → α) {a b : Nat} (i : Nat) (v : α) (h : b ≠ a) : up2 f a i v b = f b := by
  funext j
  simp [up2, h]
theorem up2_ne {α : Type} (f : Nat → Nat → α) {a b i j : Nat} (v : α) (h : ¬ (b = a ∧ j = i)) : up2 f a i v b j = f b j := if_neg h
theorem up2_i2 {α : Type} (f : Nat → Nat → α) {a b i : Nat} (v : α) (h : b ≠ a) : up2 (up2 f a i v) b i (f b i) = up2 f a i v := by
  have e : f b i = up2 f a i v b i := (up2_ne f v (fun q => h q.1)).symm
  rw [e]
  exact up2_id _ _ _
theorem up2_i3 {α : Type} (f : Nat → Nat → α) {a b d i : Nat} (v w : α) (h : d ≠ a) (h2 : d ≠ b) : up2 (up2 (up2 f a i v) b i w) d i (f d i) = up2 (up2 f a i v) b i w := by
  have e : f d i = up2 (up2 f a i v) b i w d i := by rw [up2_ne _ _ (fun q => h2 q.1), up2_ne _ _ (fun q => h q.1)]
  rw [e]
  exact up2_id _ _ _
theorem up2_upd (f : Nat → Nat → Int32) (a i : Nat) (v : Int32) : up2 f a i v a = upd (f a) i v := by
  funext j
  simp [up2, upd]
def gE (dA : Nat → ClassId) (ad : Nat → Nat) (I : Nat → Nat → Int32) (J : Nat → Nat → Int64) (F : Nat → Nat → Nat → Int32) (si : Nat → Nat) (tc oc : Nat) (G0 : mG) : mG := fun r =>
  if r < 1000 then
    if r = 0 then some (.inr (5, [.int (I 0 0), .ref (ad 1), .ref (ad 2), .ref (ad 3), .ref (ad 4), .ref (ad 5), .int (nI tc), .int (nI oc)])) else
    if r = 1 then some (.inl (dA 0, 16, .inl (I 1))) else
    if r = 2 then some (.inl (dA 3, 4, .inr (.inr (.inr (.inr (fun i => if i < 4 then some (ad (10 + i)) else none)))))) else
    if r = 3 then some (.inl (dA 4, 12, .inr (.inr (.inr (.inr (fun i => if i < tc then some (ad (100 + i)) else none)))))) else
    if r = 4 then some (.inl (dA 5, 16, .inr (.inr (.inr (.inr (fun i => if i < oc then some (ad (400 + i)) else none)))))) else
    if r = 5 then some (.inr (2, [.int (I 0 1), .int (I 0 2), .int (I 0 3), .int (I 0 4)])) else
    if r < 10 then none else
    if r < 14 then some (.inr (3, [.int (nI (r - 10)), .ref (ad (20 + (r - 10))), .int (I 2 (r - 10)), .long (J 0 (r - 10)), .int (I 3 (r - 10)), .int (I 4 (r - 10))])) else
    if r < 20 then none else
    if r < 24 then some (.inl (dA 0, 40, .inl (F 0 (r - 20)))) else
    if r < 100 then none else
    if r < 100 + tc then some (.inr (4, [.ref (ad (10 + si (r - 100))), .int (I 6 (r - 100)), .ref (ad (200 + (r - 100))), .int (I 5 (r - 100)), .long (J 1 (r - 100)), .long (J 2 (r - 100)), .long (J 3 (r - 100)), .int (I 7 (r - 100)), .int (I 8 (r - 100))])) else
    if r < 200 then none else
    if r < 200 + tc then some (.inr (1, [.ref (ad (300 + (r - 200))), .int (I 9 (r - 200)), .int (I 10 (r - 200))])) else
    if r < 300 then none else
    if r < 300 + tc then some (.inl (dA 0, 24, .inl (F 1 (r - 300)))) else
    if r < 400 then none else
    if r < 400 + oc then some (.inr (0, [.int (I 11 (r - 400)), .int (I 12 (r - 400)), .int (I 13 (r - 400))])) else
    none
  else G0 r
theorem gE_c0 {dA : Nat → ClassId} {ad : Nat → Nat} {I : Nat → Nat → Int32} {J : Nat → Nat → Int64} {F : Nat → Nat → Nat → Int32} {si : Nat → Nat} {tc oc : Nat} {G0 : mG} : gE dA ad I J F si tc oc G0 0 = some (.inr (5, [.int (I 0 0), .ref (ad 1), .ref (ad 2), .ref (ad 3), .ref (ad 4), .ref (ad 5), .int (nI tc), .int (nI oc)])) := rfl
theorem gE_c1 {dA : Nat → ClassId} {ad : Nat → Nat} {I : Nat → Nat → Int32} {J : Nat → Nat → Int64} {F : Nat → Nat → Nat → Int32} {si : Nat → Nat} {tc oc : Nat} {G0 : mG} : gE dA ad I J F si tc oc G0 1 = some (.inl (dA 0, 16, .inl (I 1))) := rfl
theorem gE_c2 {dA : Nat → ClassId} {ad : Nat → Nat} {I : Nat → Nat → Int32} {J : Nat → Nat → Int64} {F : Nat → Nat → Nat → Int32} {si : Nat → Nat} {tc oc : Nat} {G0 : mG} : gE dA ad I J F si tc oc G0 2 = some (.inl (dA 3, 4, .inr (.inr (.inr (.inr (fun i => if i < 4 then some (ad (10 + i)) else none)))))) := rfl
theorem gE_c3 {dA : Nat → ClassId} {ad : Nat → Nat} {I : Nat → Nat → Int32} {J : Nat → Nat → Int64} {F : Nat → Nat → Nat → Int32} {si : Nat → Nat} {tc oc : Nat} {G0 : mG} : gE dA ad I J F si tc oc G0 3 = some (.inl (dA 4, 12, .inr (.inr (.inr (.inr (fun i => if i < tc then some (ad (100 + i)) else none)))))) := rfl
theorem gE_c4 {dA : Nat → ClassId} {ad : Nat → Nat} {I : Nat → Nat → Int32} {J : Nat → Nat → Int64} {F : Nat → Nat → Nat → Int32} {si : Nat → Nat} {tc oc : Nat} {G0 : mG} : gE dA ad I J F si tc oc G0 4 = some (.inl (dA 5, 16, .inr (.inr (.inr (.inr (fun i => if i < oc then some (ad (400 + i)) else none)))))) := rfl
theorem gE_c5 {dA : Nat → ClassId} {ad : Nat → Nat} {I : Nat → Nat → Int32} {J : Nat → Nat → Int64} {F : Nat → Nat → Nat → Int32} {si : Nat → Nat} {tc oc : Nat} {G0 : mG} : gE dA ad I J F si tc oc G0 5 = some (.inr (2, [.int (I 0 1), .int (I 0 2), .int (I 0 3), .int (I 0 4)])) := rfl
theorem gE_so {dA : Nat → ClassId} {ad : Nat → Nat} {I : Nat → Nat → Int32} {J : Nat → Nat → Int64} {F : Nat → Nat → Nat → Int32} {si : Nat → Nat} {tc oc : Nat} {G0 : mG} {i : Nat} (h : i < 4) : gE dA ad I J F si tc oc G0 (10 + i) = some (.inr (3, [.int (nI i), .ref (ad (20 + i)), .int (I 2 i), .long (J 0 i), .int (I 3 i), .int (I 4 i)])) := by
  unfold gE
  rw [if_pos (show 10 + i < 1000 by omega), if_neg (show ¬ 10 + i = 0 by omega), if_neg (show ¬ 10 + i = 1 by omega), if_neg (show ¬ 10 + i = 2 by omega), if_neg (show ¬ 10 + i = 3 by omega), if_neg (show ¬ 10 + i = 4 by omega), if_neg (show ¬ 10 + i = 5 by omega), if_neg (show ¬ 10 + i < 10 by omega), if_pos (show 10 + i < 14 by omega), show 10 + i - 10 = i by omega]
theorem gE_li {dA : Nat → ClassId} {ad : Nat → Nat} {I : Nat → Nat → Int32} {J : Nat → Nat → Int64} {F : Nat → Nat → Nat → Int32} {si : Nat → Nat} {tc oc : Nat} {G0 : mG} {i : Nat} (h : i < 4) : gE dA ad I J F si tc oc G0 (20 + i) = some (.inl (dA 0, 40, .inl (F 0 i))) := by
  unfold gE
  rw [if_pos (show 20 + i < 1000 by omega), if_neg (show ¬ 20 + i = 0 by omega), if_neg (show ¬ 20 + i = 1 by omega), if_neg (show ¬ 20 + i = 2 by omega), if_neg (show ¬ 20 + i = 3 by omega), if_neg (show ¬ 20 + i = 4 by omega), if_neg (show ¬ 20 + i = 5 by omega), if_neg (show ¬ 20 + i < 10 by omega), if_neg (show ¬ 20 + i < 14 by omega), if_neg (show ¬ 20 + i < 20 by omega), if_pos (show 20 + i < 24 by omega), show 20 + i - 20 = i by omega]
theorem gE_to {dA : Nat → ClassId} {ad : Nat → Nat} {I : Nat → Nat → Int32} {J : Nat → Nat → Int64} {F : Nat → Nat → Nat → Int32} {si : Nat → Nat} {tc oc : Nat} {G0 : mG} {i : Nat} (h : i < tc) (ht : tc ≤ 12) : gE dA ad I J F si tc oc G0 (100 + i) = some (.inr (4, [.ref (ad (10 + si i)), .int (I 6 i), .ref (ad (200 + i)), .int (I 5 i), .long (J 1 i), .long (J 2 i), .long (J 3 i), .int (I 7 i), .int (I 8 i)])) := by
  unfold gE
  rw [if_pos (show 100 + i < 1000 by omega), if_neg (show ¬ 100 + i = 0 by omega), if_neg (show ¬ 100 + i = 1 by omega), if_neg (show ¬ 100 + i = 2 by omega), if_neg (show ¬ 100 + i = 3 by omega), if_neg (show ¬ 100 + i = 4 by omega), if_neg (show ¬ 100 + i = 5 by omega), if_neg (show ¬ 100 + i < 10 by omega), if_neg (show ¬ 100 + i < 14 by omega), if_neg (show ¬ 100 + i < 20 by omega), if_neg (show ¬ 100 + i < 24 by omega), if_neg (show ¬ 100 + i < 100 by omega), if_pos (show 100 + i < 100 + tc by omega), show 100 + i - 100 = i by omega]
theorem gE_rd {dA : Nat → ClassId} {ad : Nat → Nat} {I : Nat → Nat → Int32} {J : Nat → Nat → Int64} {F : Nat → Nat → Nat → Int32} {si : Nat → Nat} {tc oc : Nat} {G0 : mG} {i : Nat} (h : i < tc) (ht : tc ≤ 12) : gE dA ad I J F si tc oc G0 (200 + i) = some (.inr (1, [.ref (ad (300 + i)), .int (I 9 i), .int (I 10 i)])) := by
  unfold gE
  rw [if_pos (show 200 + i < 1000 by omega), if_neg (show ¬ 200 + i = 0 by omega), if_neg (show ¬ 200 + i = 1 by omega), if_neg (show ¬ 200 + i = 2 by omega), if_neg (show ¬ 200 + i = 3 by omega), if_neg (show ¬ 200 + i = 4 by omega), if_neg (show ¬ 200 + i = 5 by omega), if_neg (show ¬ 200 + i < 10 by omega), if_neg (show ¬ 200 + i < 14 by omega), if_neg (show ¬ 200 + i < 20 by omega), if_neg (show ¬ 200 + i < 24 by omega), if_neg (show ¬ 200 + i < 100 by omega), if_neg (show ¬ 200 + i < 100 + tc by omega), if_neg (show ¬ 200 + i < 200 by omega), if_pos (show 200 + i < 200 + tc by omega), show 200 + i - 200 = i by omega]
theorem gE_la {dA : Nat → ClassId} {ad : Nat → Nat} {I : Nat → Nat → Int32} {J : Nat → Nat → Int64} {F : Nat → Nat → Nat → Int32} {si : Nat → Nat} {tc oc : Nat} {G0 : mG} {i : Nat} (h : i < tc) (ht : tc ≤ 12) : gE dA ad I J F si tc oc G0 (300 + i) = some (.inl (dA 0, 24, .inl (F 1 i))) := by
  unfold gE
  rw [if_pos (show 300 + i < 1000 by omega), if_neg (show ¬ 300 + i = 0 by omega), if_neg (show ¬ 300 + i = 1 by omega), if_neg (show ¬ 300 + i = 2 by omega), if_neg (show ¬ 300 + i = 3 by omega), if_neg (show ¬ 300 + i = 4 by omega), if_neg (show ¬ 300 + i = 5 by omega), if_neg (show ¬ 300 + i < 10 by omega), if_neg (show ¬ 300 + i < 14 by omega), if_neg (show ¬ 300 + i < 20 by omega), if_neg (show ¬ 300 + i < 24 by omega), if_neg (show ¬ 300 + i < 100 by omega), if_neg (show ¬ 300 + i < 100 + tc by omega), if_neg (show ¬ 300 + i < 200 by omega), if_neg (show ¬ 300 + i < 200 + tc by omega), if_neg (show ¬ 300 + i < 300 by omega), if_pos (show 300 + i < 300 + tc by omega), show 300 + i - 300 = i by omega]
theorem gE_od {dA : Nat → ClassId} {ad : Nat → Nat} {I : Nat → Nat → Int32} {J : Nat → Nat → Int64} {F : Nat → Nat → Nat → Int32} {si : Nat → Nat} {tc oc : Nat} {G0 : mG} {i : Nat} (h : i < oc) (ht : tc ≤ 12) (ho : oc ≤ 16) : gE dA ad I J F si tc oc G0 (400 + i) = some (.inr (0, [.int (I 11 i), .int (I 12 i), .int (I 13 i)])) := by
  unfold gE
  rw [if_pos (show 400 + i < 1000 by omega), if_neg (show ¬ 400 + i = 0 by omega), if_neg (show ¬ 400 + i = 1 by omega), if_neg (show ¬ 400 + i = 2 by omega), if_neg (show ¬ 400 + i = 3 by omega), if_neg (show ¬ 400 + i = 4 by omega), if_neg (show ¬ 400 + i = 5 by omega), if_neg (show ¬ 400 + i < 10 by omega), if_neg (show ¬ 400 + i < 14 by omega), if_neg (show ¬ 400 + i < 20 by omega), if_neg (show ¬ 400 + i < 24 by omega), if_neg (show ¬ 400 + i < 100 by omega), if_neg (show ¬ 400 + i < 100 + tc by omega), if_neg (show ¬ 400 + i < 200 by omega), if_neg (show ¬ 400 + i < 200 + tc by omega), if_neg (show ¬ 400 + i < 300 by omega), if_neg (show ¬ 400 + i < 300 + tc by omega), if_neg (show ¬ 400 + i < 400 by omega), if_pos (show 400 + i < 400 + oc by omega), show 400 + i - 400 = i by omega]
theorem gE_out {dA : Nat → ClassId} {ad : Nat → Nat} {I : Nat → Nat → Int32} {J : Nat → Nat → Int64} {F : Nat → Nat → Nat → Int32} {si : Nat → Nat} {tc oc : Nat} {G0 : mG} {r : Nat} (h : 1000 ≤ r) : gE dA ad I J F si tc oc G0 r = G0 r := by
  unfold gE
  rw [if_neg (by omega)]
theorem gE_urate {dA : Nat → ClassId} {ad : Nat → Nat} {I : Nat → Nat → Int32} {J : Nat → Nat → Int64} {F : Nat → Nat → Nat → Int32} {si : Nat → Nat} {tc oc : Nat} {G0 : mG} {i : Nat} (v : Int32) : va_up (gE dA ad I J F si tc oc G0) (1) (some (.inl (dA 0, 16, .inl (upd (I 1) i v)))) = gE dA ad (up2 I 1 i v) J F si tc oc G0 := by
  funext r
  by_cases hr : r = 1
  · rw [hr, va_up_self]
    rw [gE_c1, up2_upd]
  · rw [va_up_ne _ _ hr]
    unfold gE
    by_cases q0 : r < 1000
    · rw [if_pos q0, if_pos q0]
      by_cases q1 : r = 0
      · rw [if_pos q1, if_pos q1] <;>
        first | (simp [up2]; done) | (simp [up2_row]; done) | (exfalso; omega)
      rw [if_neg q1, if_neg q1]
      by_cases q2 : r = 1
      · rw [if_pos q2, if_pos q2] <;>
        first | (simp [up2]; done) | (simp [up2_row]; done) | (exfalso; omega)
      rw [if_neg q2, if_neg q2]
      by_cases q3 : r = 2
      · rw [if_pos q3, if_pos q3] <;>
        first | (simp [up2]; done) | (simp [up2_row]; done) | (exfalso; omega)
      rw [if_neg q3, if_neg q3]
      by_cases q4 : r = 3
      · rw [if_pos q4, if_pos q4] <;>
        first | (simp [up2]; done) | (simp [up2_row]; done) | (exfalso; omega)
      rw [if_neg q4, if_neg q4]
      by_cases q5 : r = 4
      · rw [if_pos q5, if_pos q5] <;>
        first | (simp [up2]; done) | (simp [up2_row]; done) | (exfalso; omega)
      rw [if_neg q5, if_neg q5]
      by_cases q6 : r = 5
      · rw [if_pos q6, if_pos q6] <;>
        first | (simp [up2]; done) | (simp [up2_row]; done) | (exfalso; omega)
      rw [if_neg q6, if_neg q6]
      by_cases q7 : r < 10
      · rw [if_pos q7, if_pos q7]
      rw [if_neg q7, if_neg q7]
      by_cases q8 : r < 14
      · rw [if_pos q8, if_pos q8] <;>
        first | (have h9 : ¬ r - 10 = i := (by omega); simp [up2, h9]; done) | (simp [up2]; done) | (exfalso; omega)
      rw [if_neg q8, if_neg q8]
      by_cases q9 : r < 20
      · rw [if_pos q9, if_pos q9]
      rw [if_neg q9, if_neg q9]
      by_cases q10 : r < 24
      · rw [if_pos q10, if_pos q10] <;>
        first | (have h9 : ¬ r - 20 = i := (by omega); simp [up2, h9]; done) | (simp [up2]; done) | (exfalso; omega)
      rw [if_neg q10, if_neg q10]
      by_cases q11 : r < 100
      · rw [if_pos q11, if_pos q11]
      rw [if_neg q11, if_neg q11]
      by_cases q12 : r < 100 + tc
      · rw [if_pos q12, if_pos q12] <;>
        first | (have h9 : ¬ r - 100 = i := (by omega); simp [up2, h9]; done) | (simp [up2]; done) | (exfalso; omega)
      rw [if_neg q12, if_neg q12]
      by_cases q13 : r < 200
      · rw [if_pos q13, if_pos q13]
      rw [if_neg q13, if_neg q13]
      by_cases q14 : r < 200 + tc
      · rw [if_pos q14, if_pos q14] <;>
        first | (have h9 : ¬ r - 200 = i := (by omega); simp [up2, h9]; done) | (simp [up2]; done) | (exfalso; omega)
      rw [if_neg q14, if_neg q14]
      by_cases q15 : r < 300
      · rw [if_pos q15, if_pos q15]
      rw [if_neg q15, if_neg q15]
      by_cases q16 : r < 300 + tc
      · rw [if_pos q16, if_pos q16] <;>
        first | (have h9 : ¬ r - 300 = i := (by omega); simp [up2, h9]; done) | (simp [up2]; done) | (exfalso; omega)
      rw [if_neg q16, if_neg q16]
      by_cases q17 : r < 400
      · rw [if_pos q17, if_pos q17]
      rw [if_neg q17, if_neg q17]
      by_cases q18 : r < 400 + oc
      · rw [if_pos q18, if_pos q18] <;>
        first | (have h9 : ¬ r - 400 = i := (by omega); simp [up2, h9]; done) | (simp [up2]; done) | (exfalso; omega)
      rw [if_neg q18, if_neg q18]
    · rw [if_neg q0, if_neg q0]

theorem gE_usort {dA : Nat → ClassId} {ad : Nat → Nat} {I : Nat → Nat → Int32} {J : Nat → Nat → Int64} {F : Nat → Nat → Nat → Int32} {si : Nat → Nat} {tc oc : Nat} {G0 : mG} {i : Nat} (h : i < 4) (a c d : Int32) (b : Int64) : va_up (gE dA ad I J F si tc oc G0) (10 + i) (some (.inr (3, [.int (nI i), .ref (ad (20 + i)), .int a, .long b, .int c, .int d]))) = gE dA ad (up2 (up2 (up2 I 2 i a) 3 i c) 4 i d) (up2 J 0 i b) F si tc oc G0 := by
  funext r
  by_cases hr : r = 10 + i
  · rw [hr, va_up_self]
    rw [gE_so h]
    simp [up2]
  · rw [va_up_ne _ _ hr]
    unfold gE
    by_cases q0 : r < 1000
    · rw [if_pos q0, if_pos q0]
      by_cases q1 : r = 0
      · rw [if_pos q1, if_pos q1] <;>
        first | (simp [up2]; done) | (simp [up2_row]; done) | (exfalso; omega)
      rw [if_neg q1, if_neg q1]
      by_cases q2 : r = 1
      · rw [if_pos q2, if_pos q2] <;>
        first | (simp [up2]; done) | (simp [up2_row]; done) | (exfalso; omega)
      rw [if_neg q2, if_neg q2]
      by_cases q3 : r = 2
      · rw [if_pos q3, if_pos q3] <;>
        first | (simp [up2]; done) | (simp [up2_row]; done) | (exfalso; omega)
      rw [if_neg q3, if_neg q3]
      by_cases q4 : r = 3
      · rw [if_pos q4, if_pos q4] <;>
        first | (simp [up2]; done) | (simp [up2_row]; done) | (exfalso; omega)
      rw [if_neg q4, if_neg q4]
      by_cases q5 : r = 4
      · rw [if_pos q5, if_pos q5] <;>
        first | (simp [up2]; done) | (simp [up2_row]; done) | (exfalso; omega)
      rw [if_neg q5, if_neg q5]
      by_cases q6 : r = 5
      · rw [if_pos q6, if_pos q6] <;>
        first | (simp [up2]; done) | (simp [up2_row]; done) | (exfalso; omega)
      rw [if_neg q6, if_neg q6]
      by_cases q7 : r < 10
      · rw [if_pos q7, if_pos q7]
      rw [if_neg q7, if_neg q7]
      by_cases q8 : r < 14
      · rw [if_pos q8, if_pos q8] <;>
        first | (have h9 : ¬ r - 10 = i := (by omega); simp [up2, h9]; done) | (simp [up2]; done) | (exfalso; omega)
      rw [if_neg q8, if_neg q8]
      by_cases q9 : r < 20
      · rw [if_pos q9, if_pos q9]
      rw [if_neg q9, if_neg q9]
      by_cases q10 : r < 24
      · rw [if_pos q10, if_pos q10] <;>
        first | (have h9 : ¬ r - 20 = i := (by omega); simp [up2, h9]; done) | (simp [up2]; done) | (exfalso; omega)
      rw [if_neg q10, if_neg q10]
      by_cases q11 : r < 100
      · rw [if_pos q11, if_pos q11]
      rw [if_neg q11, if_neg q11]
      by_cases q12 : r < 100 + tc
      · rw [if_pos q12, if_pos q12] <;>
        first | (have h9 : ¬ r - 100 = i := (by omega); simp [up2, h9]; done) | (simp [up2]; done) | (exfalso; omega)
      rw [if_neg q12, if_neg q12]
      by_cases q13 : r < 200
      · rw [if_pos q13, if_pos q13]
      rw [if_neg q13, if_neg q13]
      by_cases q14 : r < 200 + tc
      · rw [if_pos q14, if_pos q14] <;>
        first | (have h9 : ¬ r - 200 = i := (by omega); simp [up2, h9]; done) | (simp [up2]; done) | (exfalso; omega)
      rw [if_neg q14, if_neg q14]
      by_cases q15 : r < 300
      · rw [if_pos q15, if_pos q15]
      rw [if_neg q15, if_neg q15]
      by_cases q16 : r < 300 + tc
      · rw [if_pos q16, if_pos q16] <;>
        first | (have h9 : ¬ r - 300 = i := (by omega); simp [up2, h9]; done) | (simp [up2]; done) | (exfalso; omega)
      rw [if_neg q16, if_neg q16]
      by_cases q17 : r < 400
      · rw [if_pos q17, if_pos q17]
      rw [if_neg q17, if_neg q17]
      by_cases q18 : r < 400 + oc
      · rw [if_pos q18, if_pos q18] <;>
        first | (have h9 : ¬ r - 400 = i := (by omega); simp [up2, h9]; done) | (simp [up2]; done) | (exfalso; omega)
      rw [if_neg q18, if_neg q18]
    · rw [if_neg q0, if_neg q0]

theorem gE_ulife {dA : Nat → ClassId} {ad : Nat → Nat} {I : Nat → Nat → Int32} {J : Nat → Nat → Int64} {F : Nat → Nat → Nat → Int32} {si : Nat → Nat} {tc oc : Nat} {G0 : mG} {i : Nat} (h : i < 4) (g : Nat → Int32) : va_up (gE dA ad I J F si tc oc G0) (20 + i) (some (.inl (dA 0, 40, .inl g))) = gE dA ad I J (up2 F 0 i g) si tc oc G0 := by
  funext r
  by_cases hr : r = 20 + i
  · rw [hr, va_up_self]
    rw [gE_li h]
    simp [up2]
  · rw [va_up_ne _ _ hr]
    unfold gE
    by_cases q0 : r < 1000
    · rw [if_pos q0, if_pos q0]
      by_cases q1 : r = 0
      · rw [if_pos q1, if_pos q1] <;>
        first | (simp [up2]; done) | (simp [up2_row]; done) | (exfalso; omega)
      rw [if_neg q1, if_neg q1]
      by_cases q2 : r = 1
      · rw [if_pos q2, if_pos q2] <;>
        first | (simp [up2]; done) | (simp [up2_row]; done) | (exfalso; omega)
      rw [if_neg q2, if_neg q2]
      by_cases q3 : r = 2
      · rw [if_pos q3, if_pos q3] <;>
        first | (simp [up2]; done) | (simp [up2_row]; done) | (exfalso; omega)
      rw [if_neg q3, if_neg q3]
      by_cases q4 : r = 3
      · rw [if_pos q4, if_pos q4] <;>
        first | (simp [up2]; done) | (simp [up2_row]; done) | (exfalso; omega)
      rw [if_neg q4, if_neg q4]
      by_cases q5 : r = 4
      · rw [if_pos q5, if_pos q5] <;>
        first | (simp [up2]; done) | (simp [up2_row]; done) | (exfalso; omega)
      rw [if_neg q5, if_neg q5]
      by_cases q6 : r = 5
      · rw [if_pos q6, if_pos q6] <;>
        first | (simp [up2]; done) | (simp [up2_row]; done) | (exfalso; omega)
      rw [if_neg q6, if_neg q6]
      by_cases q7 : r < 10
      · rw [if_pos q7, if_pos q7]
      rw [if_neg q7, if_neg q7]
      by_cases q8 : r < 14
      · rw [if_pos q8, if_pos q8] <;>
        first | (have h9 : ¬ r - 10 = i := (by omega); simp [up2, h9]; done) | (simp [up2]; done) | (exfalso; omega)
      rw [if_neg q8, if_neg q8]
      by_cases q9 : r < 20
      · rw [if_pos q9, if_pos q9]
      rw [if_neg q9, if_neg q9]
      by_cases q10 : r < 24
      · rw [if_pos q10, if_pos q10] <;>
        first | (have h9 : ¬ r - 20 = i := (by omega); simp [up2, h9]; done) | (simp [up2]; done) | (exfalso; omega)
      rw [if_neg q10, if_neg q10]
      by_cases q11 : r < 100
      · rw [if_pos q11, if_pos q11]
      rw [if_neg q11, if_neg q11]
      by_cases q12 : r < 100 + tc
      · rw [if_pos q12, if_pos q12] <;>
        first | (have h9 : ¬ r - 100 = i := (by omega); simp [up2, h9]; done) | (simp [up2]; done) | (exfalso; omega)
      rw [if_neg q12, if_neg q12]
      by_cases q13 : r < 200
      · rw [if_pos q13, if_pos q13]
      rw [if_neg q13, if_neg q13]
      by_cases q14 : r < 200 + tc
      · rw [if_pos q14, if_pos q14] <;>
        first | (have h9 : ¬ r - 200 = i := (by omega); simp [up2, h9]; done) | (simp [up2]; done) | (exfalso; omega)
      rw [if_neg q14, if_neg q14]
      by_cases q15 : r < 300
      · rw [if_pos q15, if_pos q15]
      rw [if_neg q15, if_neg q15]
      by_cases q16 : r < 300 + tc
      · rw [if_pos q16, if_pos q16] <;>
        first | (have h9 : ¬ r - 300 = i := (by omega); simp [up2, h9]; done) | (simp [up2]; done) | (exfalso; omega)
      rw [if_neg q16, if_neg q16]
    · rw [if_neg q0, if_neg q0]

theorem gE_utool {dA : Nat → ClassId} {ad : Nat → Nat} {I : Nat → Nat → Int32} {J : Nat → Nat → Int64} {F : Nat → Nat → Nat → Int32} {si : Nat → Nat} {tc oc : Nat} {G0 : mG} {i : Nat} (h : i < tc) (ht : tc ≤ 12) (ln : Int32) (we us gr : Int64) (ba ou : Int32) : va_up (gE dA ad I J F si tc oc G0) (100 + i) (some (.inr (4, [.ref (ad (10 + si i)), .int (I 6 i), .ref (ad (200 + i)), .int ln, .long we, .long us, .long gr, .int ba, .int ou]))) = gE dA ad (up2 (up2 (up2 I 5 i ln) 7 i ba) 8 i ou) (up2 (up2 (up2 J 1 i we) 2 i us) 3 i gr) F si tc oc G0 := by
  funext r
  by_cases hr : r = 100 + i
  · rw [hr, va_up_self]
    rw [gE_to h ht]
    simp [up2]
  · rw [va_up_ne _ _ hr]
    unfold gE
    by_cases q0 : r < 1000
    · rw [if_pos q0, if_pos q0]
      by_cases q1 : r = 0
      · rw [if_pos q1, if_pos q1] <;>
        first | (simp [up2]; done) | (simp [up2_row]; done) | (exfalso; omega)
      rw [if_neg q1, if_neg q1]
      by_cases q2 : r = 1
      · rw [if_pos q2, if_pos q2] <;>
        first | (simp [up2]; done) | (simp [up2_row]; done) | (exfalso; omega)
      rw [if_neg q2, if_neg q2]
      by_cases q3 : r = 2
      · rw [if_pos q3, if_pos q3] <;>
        first | (simp [up2]; done) | (simp [up2_row]; done) | (exfalso; omega)
      rw [if_neg q3, if_neg q3]
      by_cases q4 : r = 3
      · rw [if_pos q4, if_pos q4] <;>
        first | (simp [up2]; done) | (simp [up2_row]; done) | (exfalso; omega)
      rw [if_neg q4, if_neg q4]
      by_cases q5 : r = 4
      · rw [if_pos q5, if_pos q5] <;>
        first | (simp [up2]; done) | (simp [up2_row]; done) | (exfalso; omega)
      rw [if_neg q5, if_neg q5]
      by_cases q6 : r = 5
      · rw [if_pos q6, if_pos q6] <;>
        first | (simp [up2]; done) | (simp [up2_row]; done) | (exfalso; omega)
      rw [if_neg q6, if_neg q6]
      by_cases q7 : r < 10
      · rw [if_pos q7, if_pos q7]
      rw [if_neg q7, if_neg q7]
      by_cases q8 : r < 14
      · rw [if_pos q8, if_pos q8] <;>
        first | (have h9 : ¬ r - 10 = i := (by omega); simp [up2, h9]; done) | (simp [up2]; done) | (exfalso; omega)
      rw [if_neg q8, if_neg q8]
      by_cases q9 : r < 20
      · rw [if_pos q9, if_pos q9]
      rw [if_neg q9, if_neg q9]
      by_cases q10 : r < 24
      · rw [if_pos q10, if_pos q10] <;>
        first | (have h9 : ¬ r - 20 = i := (by omega); simp [up2, h9]; done) | (simp [up2]; done) | (exfalso; omega)
      rw [if_neg q10, if_neg q10]
      by_cases q11 : r < 100
      · rw [if_pos q11, if_pos q11]
      rw [if_neg q11, if_neg q11]
      by_cases q12 : r < 100 + tc
      · rw [if_pos q12, if_pos q12] <;>
        first | (have h9 : ¬ r - 100 = i := (by omega); simp [up2, h9]; done) | (simp [up2]; done) | (exfalso; omega)
      rw [if_neg q12, if_neg q12]
      by_cases q13 : r < 200
      · rw [if_pos q13, if_pos q13]
      rw [if_neg q13, if_neg q13]
      by_cases q14 : r < 200 + tc
      · rw [if_pos q14, if_pos q14] <;>
        first | (have h9 : ¬ r - 200 = i := (by omega); simp [up2, h9]; done) | (simp [up2]; done) | (exfalso; omega)
      rw [if_neg q14, if_neg q14]
      by_cases q15 : r < 300
      · rw [if_pos q15, if_pos q15]
      rw [if_neg q15, if_neg q15]
      by_cases q16 : r < 300 + tc
      · rw [if_pos q16, if_pos q16] <;>
        first | (have h9 : ¬ r - 300 = i := (by omega); simp [up2, h9]; done) | (simp [up2]; done) | (exfalso; omega)
      rw [if_neg q16, if_neg q16]
      by_cases q17 : r < 400
      · rw [if_pos q17, if_pos q17]
      rw [if_neg q17, if_neg q17]
      by_cases q18 : r < 400 + oc
      · rw [if_pos q18, if_pos q18] <;>
        first | (have h9 : ¬ r - 400 = i := (by omega); simp [up2, h9]; done) | (simp [up2]; done) | (exfalso; omega)
      rw [if_neg q18, if_neg q18]
    · rw [if_neg q0, if_neg q0]

theorem gE_uread {dA : Nat → ClassId} {ad : Nat → Nat} {I : Nat → Nat → Int32} {J : Nat → Nat → Int64} {F : Nat → Nat → Nat → Int32} {si : Nat → Nat} {tc oc : Nat} {G0 : mG} {i : Nat} (h : i < tc) (ht : tc ≤ 12) (a b : Int32) : va_up (gE dA ad I J F si tc oc G0) (200 + i) (some (.inr (1, [.ref (ad (300 + i)), .int a, .int b]))) = gE dA ad (up2 (up2 I 9 i a) 10 i b) J F si tc oc G0 := by
  funext r
  by_cases hr : r = 200 + i
  · rw [hr, va_up_self]
    rw [gE_rd h ht]
    simp [up2]
  · rw [va_up_ne _ _ hr]
    unfold gE
    by_cases q0 : r < 1000
    · rw [if_pos q0, if_pos q0]
      by_cases q1 : r = 0
      · rw [if_pos q1, if_pos q1] <;>
        first | (simp [up2]; done) | (simp [up2_row]; done) | (exfalso; omega)
      rw [if_neg q1, if_neg q1]
      by_cases q2 : r = 1
      · rw [if_pos q2, if_pos q2] <;>
        first | (simp [up2]; done) | (simp [up2_row]; done) | (exfalso; omega)
      rw [if_neg q2, if_neg q2]
      by_cases q3 : r = 2
      · rw [if_pos q3, if_pos q3] <;>
        first | (simp [up2]; done) | (simp [up2_row]; done) | (exfalso; omega)
      rw [if_neg q3, if_neg q3]
      by_cases q4 : r = 3
      · rw [if_pos q4, if_pos q4] <;>
        first | (simp [up2]; done) | (simp [up2_row]; done) | (exfalso; omega)
      rw [if_neg q4, if_neg q4]
      by_cases q5 : r = 4
      · rw [if_pos q5, if_pos q5] <;>
        first | (simp [up2]; done) | (simp [up2_row]; done) | (exfalso; omega)
      rw [if_neg q5, if_neg q5]
      by_cases q6 : r = 5
      · rw [if_pos q6, if_pos q6] <;>
        first | (simp [up2]; done) | (simp [up2_row]; done) | (exfalso; omega)
      rw [if_neg q6, if_neg q6]
      by_cases q7 : r < 10
      · rw [if_pos q7, if_pos q7]
      rw [if_neg q7, if_neg q7]
      by_cases q8 : r < 14
      · rw [if_pos q8, if_pos q8] <;>
        first | (have h9 : ¬ r - 10 = i := (by omega); simp [up2, h9]; done) | (simp [up2]; done) | (exfalso; omega)
      rw [if_neg q8, if_neg q8]
      by_cases q9 : r < 20
      · rw [if_pos q9, if_pos q9]
      rw [if_neg q9, if_neg q9]
      by_cases q10 : r < 24
      · rw [if_pos q10, if_pos q10] <;>
        first | (have h9 : ¬ r - 20 = i := (by omega); simp [up2, h9]; done) | (simp [up2]; done) | (exfalso; omega)
      rw [if_neg q10, if_neg q10]
      by_cases q11 : r < 100
      · rw [if_pos q11, if_pos q11]
      rw [if_neg q11, if_neg q11]
      by_cases q12 : r < 100 + tc
      · rw [if_pos q12, if_pos q12] <;>
        first | (have h9 : ¬ r - 100 = i := (by omega); simp [up2, h9]; done) | (simp [up2]; done) | (exfalso; omega)
      rw [if_neg q12, if_neg q12]
      by_cases q13 : r < 200
      · rw [if_pos q13, if_pos q13]
      rw [if_neg q13, if_neg q13]
      by_cases q14 : r < 200 + tc
      · rw [if_pos q14, if_pos q14] <;>
        first | (have h9 : ¬ r - 200 = i := (by omega); simp [up2, h9]; done) | (simp [up2]; done) | (exfalso; omega)
      rw [if_neg q14, if_neg q14]
      by_cases q15 : r < 300
      · rw [if_pos q15, if_pos q15]
      rw [if_neg q15, if_neg q15]
      by_cases q16 : r < 300 + tc
      · rw [if_pos q16, if_pos q16] <;>
        first | (have h9 : ¬ r - 300 = i := (by omega); simp [up2, h9]; done) | (simp [up2]; done) | (exfalso; omega)
      rw [if_neg q16, if_neg q16]
      by_cases q17 : r < 400
      · rw [if_pos q17, if_pos q17]
      rw [if_neg q17, if_neg q17]
      by_cases q18 : r < 400 + oc
      · rw [if_pos q18, if_pos q18] <;>
        first | (have h9 : ¬ r - 400 = i := (by omega); simp [up2, h9]; done) | (simp [up2]; done) | (exfalso; omega)
      rw [if_neg q18, if_neg q18]
    · rw [if_neg q0, if_neg q0]

theorem gE_ulate {dA : Nat → ClassId} {ad : Nat → Nat} {I : Nat → Nat → Int32} {J : Nat → Nat → Int64} {F : Nat → Nat → Nat → Int32} {si : Nat → Nat} {tc oc : Nat} {G0 : mG} {i : Nat} (h : i < tc) (ht : tc ≤ 12) (g : Nat → Int32) : va_up (gE dA ad I J F si tc oc G0) (300 + i) (some (.inl (dA 0, 24, .inl g))) = gE dA ad I J (up2 F 1 i g) si tc oc G0 := by
  funext r
  by_cases hr : r = 300 + i
  · rw [hr, va_up_self]
    rw [gE_la h ht]
    simp [up2]
  · rw [va_up_ne _ _ hr]
    unfold gE
    by_cases q0 : r < 1000
    · rw [if_pos q0, if_pos q0]
      by_cases q1 : r = 0
      · rw [if_pos q1, if_pos q1] <;>
        first | (simp [up2]; done) | (simp [up2_row]; done) | (exfalso; omega)
      rw [if_neg q1, if_neg q1]
      by_cases q2 : r = 1
      · rw [if_pos q2, if_pos q2] <;>
        first | (simp [up2]; done) | (simp [up2_row]; done) | (exfalso; omega)
      rw [if_neg q2, if_neg q2]
      by_cases q3 : r = 2
      · rw [if_pos q3, if_pos q3] <;>
        first | (simp [up2]; done) | (simp [up2_row]; done) | (exfalso; omega)
      rw [if_neg q3, if_neg q3]
      by_cases q4 : r = 3
      · rw [if_pos q4, if_pos q4] <;>
        first | (simp [up2]; done) | (simp [up2_row]; done) | (exfalso; omega)
      rw [if_neg q4, if_neg q4]
      by_cases q5 : r = 4
      · rw [if_pos q5, if_pos q5] <;>
        first | (simp [up2]; done) | (simp [up2_row]; done) | (exfalso; omega)
      rw [if_neg q5, if_neg q5]
      by_cases q6 : r = 5
      · rw [if_pos q6, if_pos q6] <;>
        first | (simp [up2]; done) | (simp [up2_row]; done) | (exfalso; omega)
      rw [if_neg q6, if_neg q6]
      by_cases q7 : r < 10
      · rw [if_pos q7, if_pos q7]
      rw [if_neg q7, if_neg q7]
      by_cases q8 : r < 14
      · rw [if_pos q8, if_pos q8] <;>
        first | (have h9 : ¬ r - 10 = i := (by omega); simp [up2, h9]; done) | (simp [up2]; done) | (exfalso; omega)
      rw [if_neg q8, if_neg q8]
      by_cases q9 : r < 20
      · rw [if_pos q9, if_pos q9]
      rw [if_neg q9, if_neg q9]
      by_cases q10 : r < 24
      · rw [if_pos q10, if_pos q10] <;>
        first | (have h9 : ¬ r - 20 = i := (by omega); simp [up2, h9]; done) | (simp [up2]; done) | (exfalso; omega)
      rw [if_neg q10, if_neg q10]
      by_cases q11 : r < 100
      · rw [if_pos q11, if_pos q11]
      rw [if_neg q11, if_neg q11]
      by_cases q12 : r < 100 + tc
      · rw [if_pos q12, if_pos q12] <;>
        first | (have h9 : ¬ r - 100 = i := (by omega); simp [up2, h9]; done) | (simp [up2]; done) | (exfalso; omega)
      rw [if_neg q12, if_neg q12]
      by_cases q13 : r < 200
      · rw [if_pos q13, if_pos q13]
      rw [if_neg q13, if_neg q13]
      by_cases q14 : r < 200 + tc
      · rw [if_pos q14, if_pos q14] <;>
        first | (have h9 : ¬ r - 200 = i := (by omega); simp [up2, h9]; done) | (simp [up2]; done) | (exfalso; omega)
      rw [if_neg q14, if_neg q14]
      by_cases q15 : r < 300
      · rw [if_pos q15, if_pos q15]
      rw [if_neg q15, if_neg q15]
      by_cases q16 : r < 300 + tc
      · rw [if_pos q16, if_pos q16] <;>
        first | (have h9 : ¬ r - 300 = i := (by omega); simp [up2, h9]; done) | (simp [up2]; done) | (exfalso; omega)
      rw [if_neg q16, if_neg q16]
    · rw [if_neg q0, if_neg q0]

theorem gE_uorder {dA : Nat → ClassId} {ad : Nat → Nat} {I : Nat → Nat → Int32} {J : Nat → Nat → Int64} {F : Nat → Nat → Nat → Int32} {si : Nat → Nat} {tc oc : Nat} {G0 : mG} {i : Nat} (h : i < oc) (ht : tc ≤ 12) (ho : oc ≤ 16) (v : Int32) : va_up (gE dA ad I J F si tc oc G0) (400 + i) (some (.inr (0, [.int (I 11 i), .int (I 12 i), .int v]))) = gE dA ad (up2 I 13 i v) J F si tc oc G0 := by
  funext r
  by_cases hr : r = 400 + i
  · rw [hr, va_up_self]
    rw [gE_od h ht ho]
    simp [up2]
  · rw [va_up_ne _ _ hr]
    unfold gE
    by_cases q0 : r < 1000
    · rw [if_pos q0, if_pos q0]
      by_cases q1 : r = 0
      · rw [if_pos q1, if_pos q1] <;>
        first | (simp [up2]; done) | (simp [up2_row]; done) | (exfalso; omega)
      rw [if_neg q1, if_neg q1]
      by_cases q2 : r = 1
      · rw [if_pos q2, if_pos q2] <;>
        first | (simp [up2]; done) | (simp [up2_row]; done) | (exfalso; omega)
      rw [if_neg q2, if_neg q2]
      by_cases q3 : r = 2
      · rw [if_pos q3, if_pos q3] <;>
        first | (simp [up2]; done) | (simp [up2_row]; done) | (exfalso; omega)
      rw [if_neg q3, if_neg q3]
      by_cases q4 : r = 3
      · rw [if_pos q4, if_pos q4] <;>
        first | (simp [up2]; done) | (simp [up2_row]; done) | (exfalso; omega)
      rw [if_neg q4, if_neg q4]
      by_cases q5 : r = 4
      · rw [if_pos q5, if_pos q5] <;>
        first | (simp [up2]; done) | (simp [up2_row]; done) | (exfalso; omega)
      rw [if_neg q5, if_neg q5]
      by_cases q6 : r = 5
      · rw [if_pos q6, if_pos q6] <;>
        first | (simp [up2]; done) | (simp [up2_row]; done) | (exfalso; omega)
      rw [if_neg q6, if_neg q6]
      by_cases q7 : r < 10
      · rw [if_pos q7, if_pos q7]
      rw [if_neg q7, if_neg q7]
      by_cases q8 : r < 14
      · rw [if_pos q8, if_pos q8] <;>
        first | (have h9 : ¬ r - 10 = i := (by omega); simp [up2, h9]; done) | (simp [up2]; done) | (exfalso; omega)
      rw [if_neg q8, if_neg q8]
      by_cases q9 : r < 20
      · rw [if_pos q9, if_pos q9]
      rw [if_neg q9, if_neg q9]
      by_cases q10 : r < 24
      · rw [if_pos q10, if_pos q10] <;>
        first | (have h9 : ¬ r - 20 = i := (by omega); simp [up2, h9]; done) | (simp [up2]; done) | (exfalso; omega)
      rw [if_neg q10, if_neg q10]
      by_cases q11 : r < 100
      · rw [if_pos q11, if_pos q11]
      rw [if_neg q11, if_neg q11]
      by_cases q12 : r < 100 + tc
      · rw [if_pos q12, if_pos q12] <;>
        first | (have h9 : ¬ r - 100 = i := (by omega); simp [up2, h9]; done) | (simp [up2]; done) | (exfalso; omega)
      rw [if_neg q12, if_neg q12]
      by_cases q13 : r < 200
      · rw [if_pos q13, if_pos q13]
      rw [if_neg q13, if_neg q13]
      by_cases q14 : r < 200 + tc
      · rw [if_pos q14, if_pos q14] <;>
        first | (have h9 : ¬ r - 200 = i := (by omega); simp [up2, h9]; done) | (simp [up2]; done) | (exfalso; omega)
      rw [if_neg q14, if_neg q14]
      by_cases q15 : r < 300
      · rw [if_pos q15, if_pos q15]
      rw [if_neg q15, if_neg q15]
      by_cases q16 : r < 300 + tc
      · rw [if_pos q16, if_pos q16] <;>
        first | (have h9 : ¬ r - 300 = i := (by omega); simp [up2, h9]; done) | (simp [up2]; done) | (exfalso; omega)
      rw [if_neg q16, if_neg q16]
      by_cases q17 : r < 400
      · rw [if_pos q17, if_pos q17]
      rw [if_neg q17, if_neg q17]
      by_cases q18 : r < 400 + oc
      · rw [if_pos q18, if_pos q18] <;>
        first | (have h9 : ¬ r - 400 = i := (by omega); simp [up2, h9]; done) | (simp [up2]; done) | (exfalso; omega)
      rw [if_neg q18, if_neg q18]
    · rw [if_neg q0, if_neg q0]

theorem gE_urules {dA : Nat → ClassId} {ad : Nat → Nat} {I : Nat → Nat → Int32} {J : Nat → Nat → Int64} {F : Nat → Nat → Nat → Int32} {si : Nat → Nat} {tc oc : Nat} {G0 : mG} (a b c d : Int32) : va_up (gE dA ad I J F si tc oc G0) (5) (some (.inr (2, [.int a, .int b, .int c, .int d]))) = gE dA ad (up2 (up2 (up2 (up2 I 0 1 a) 0 2 b) 0 3 c) 0 4 d) J F si tc oc G0 := by
  funext r
  by_cases hr : r = 5
  · rw [hr, va_up_self]
    rw [gE_c5]
    simp [up2]
  · rw [va_up_ne _ _ hr]
    unfold gE
    by_cases q0 : r < 1000
    · rw [if_pos q0, if_pos q0]
      by_cases q1 : r = 0
      · rw [if_pos q1, if_pos q1] <;>
        first | (simp [up2]; done) | (simp [up2_row]; done) | (exfalso; omega)
      rw [if_neg q1, if_neg q1]
      by_cases q2 : r = 1
      · rw [if_pos q2, if_pos q2] <;>
        first | (simp [up2]; done) | (simp [up2_row]; done) | (exfalso; omega)
      rw [if_neg q2, if_neg q2]
      by_cases q3 : r = 2
      · rw [if_pos q3, if_pos q3] <;>
        first | (simp [up2]; done) | (simp [up2_row]; done) | (exfalso; omega)
      rw [if_neg q3, if_neg q3]
      by_cases q4 : r = 3
      · rw [if_pos q4, if_pos q4] <;>
        first | (simp [up2]; done) | (simp [up2_row]; done) | (exfalso; omega)
      rw [if_neg q4, if_neg q4]
      by_cases q5 : r = 4
      · rw [if_pos q5, if_pos q5] <;>
        first | (simp [up2]; done) | (simp [up2_row]; done) | (exfalso; omega)
      rw [if_neg q5, if_neg q5]
      by_cases q6 : r = 5
      · rw [if_pos q6, if_pos q6] <;>
        first | (simp [up2]; done) | (simp [up2_row]; done) | (exfalso; omega)
      rw [if_neg q6, if_neg q6]
      by_cases q7 : r < 10
      · rw [if_pos q7, if_pos q7]
      rw [if_neg q7, if_neg q7]
      by_cases q8 : r < 14
      · rw [if_pos q8, if_pos q8] <;>
        first | (have h9 : ¬ r - 10 = i := (by omega); simp [up2, h9]; done) | (simp [up2]; done) | (exfalso; omega)
      rw [if_neg q8, if_neg q8]
      by_cases q9 : r < 20
      · rw [if_pos q9, if_pos q9]
      rw [if_neg q9, if_neg q9]
      by_cases q10 : r < 24
      · rw [if_pos q10, if_pos q10] <;>
        first | (have h9 : ¬ r - 20 = i := (by omega); simp [up2, h9]; done) | (simp [up2]; done) | (exfalso; omega)
      rw [if_neg q10, if_neg q10]
      by_cases q11 : r < 100
      · rw [if_pos q11, if_pos q11]
      rw [if_neg q11, if_neg q11]
      by_cases q12 : r < 100 + tc
      · rw [if_pos q12, if_pos q12] <;>
        first | (have h9 : ¬ r - 100 = i := (by omega); simp [up2, h9]; done) | (simp [up2]; done) | (exfalso; omega)
      rw [if_neg q12, if_neg q12]
      by_cases q13 : r < 200
      · rw [if_pos q13, if_pos q13]
      rw [if_neg q13, if_neg q13]
      by_cases q14 : r < 200 + tc
      · rw [if_pos q14, if_pos q14] <;>
        first | (have h9 : ¬ r - 200 = i := (by omega); simp [up2, h9]; done) | (simp [up2]; done) | (exfalso; omega)
      rw [if_neg q14, if_neg q14]
      by_cases q15 : r < 300
      · rw [if_pos q15, if_pos q15]
      rw [if_neg q15, if_neg q15]
      by_cases q16 : r < 300 + tc
      · rw [if_pos q16, if_pos q16] <;>
        first | (have h9 : ¬ r - 300 = i := (by omega); simp [up2, h9]; done) | (simp [up2]; done) | (exfalso; omega)
      rw [if_neg q16, if_neg q16]
      by_cases q17 : r < 400
      · rw [if_pos q17, if_pos q17]
      rw [if_neg q17, if_neg q17]
      by_cases q18 : r < 400 + oc
      · rw [if_pos q18, if_pos q18] <;>
        first | (have h9 : ¬ r - 400 = i := (by omega); simp [up2, h9]; done) | (simp [up2]; done) | (exfalso; omega)
      rw [if_neg q18, if_neg q18]
    · rw [if_neg q0, if_neg q0]

def eWear (w x : Int64) : Int64 := if 1000000000000000 < w + x then 1000000000000000 else w + x
theorem sw6 (x : Int32) : x = 0 ∨ x = 1 ∨ x = 2 ∨ x = 3 ∨ x = 4 ∨ x = 5 ∨ (x.toInt < 0 ∨ 5 < x.toInt) := by
  by_cases h : x.toInt < 0 ∨ 5 < x.toInt
  · exact Or.inr (Or.inr (Or.inr (Or.inr (Or.inr (Or.inr h)))))
  · have h0 : ¬ x < 0 := fun q => h (Or.inl (by have := Int32.lt_iff_toInt_lt.mp q; simpa using this))
    obtain ⟨j, hj, ej⟩ := nI_of h0
    have e := nI_toInt hj
    rw [← ej] at e
    have h5 : j < 6 := by omega
    rcases (show j = 0 ∨ j = 1 ∨ j = 2 ∨ j = 3 ∨ j = 4 ∨ j = 5 by omega) with q | q | q | q | q | q <;> rw [q] at ej
    · exact Or.inl ej
    · exact Or.inr (Or.inl ej)
    · exact Or.inr (Or.inr (Or.inl ej))
    · exact Or.inr (Or.inr (Or.inr (Or.inl ej)))
    · exact Or.inr (Or.inr (Or.inr (Or.inr (Or.inl ej))))
    · exact Or.inr (Or.inr (Or.inr (Or.inr (Or.inr (Or.inl ej)))))
