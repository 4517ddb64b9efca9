abbrev mTys (dA : Nat → ClassId) : List (ClassId × FieldType) := [(dA 0, .int), (dA 1, .long), (dA 2, .boolean), (dA 3, .object "EdgeWear$Sort"), (dA 4, .object "EdgeWear$Tool"), (dA 5, .object "EdgeWear$Order")]
def mTx : List (String × Nat × String) := [("EdgeWear", 259, "no such sort"), ("EdgeWear", 52, "length is above 1000000, or least is not 0 .. length"), ("EdgeWear", 62, "there are 12 tools"), ("EdgeWear", 261, "no such kind or speed"), ("EdgeWear", 72, "rate is not 0 .. 1000000"), ("EdgeWear", 76, "limit is not 1 .. 10^12"), ("EdgeWear", 257, "no such tool"), ("EdgeWear", 86, "metres are not 0 .. 1000000"), ("EdgeWear", 92, "the tool is barred"), ("EdgeWear", 102, "off is not 1 .. 1000000"), ("EdgeWear", 133, "no such what"), ("EdgeWear", 146, "uses are not 1 .. 1000"), ("EdgeWear", 154, "there are 40 lives"), ("EdgeWear", 156, "a cost is not 0 .. 1000000"), ("EdgeWear", 164, "no lives"), ("EdgeWear", 169, "no such part"), ("EdgeWear", 171, "n is below 1"), ("EdgeWear", 176, "no lives, or n is above the greatest"), ("EdgeWear", 185, "k is below 0"), ("EdgeWear", 191, "high, middle or jump is not 0 .. 1000000"), ("EdgeWear", 193, "run is not 2 .. 12"), ("EdgeWear", 211, "reading is not 0 .. 1000000"), ("EdgeWear", 218, "minute is not above the one before"), ("EdgeWear", 228, "day is not 0 .. 10000"), ("EdgeWear", 245, "no such end"), ("EdgeWear", 247, "feed is not 0 .. 1000000"), ("EdgeWear", 249, "wide is not 1 .. 1000, or depth is not 0 .. wide")]
theorem gV {w1 cw : Cond} {own C : String} {idx : Nat} {y : MethodName} (h0 : cw ∈ mBig) (h1 : Cond.methodLink own idx y ∈ mBig) (h2 : Cond.instanceMethod y ∈ mBig) (h3 : Cond.selects C y y ∈ mBig) (h4 : Cond.initialized C ∈ mBig) : GoodIn (w1 :: mBig) (wsV own idx C y (cw :: mBig)) := by
  intro w h
  have h9 : w ∈ mBig := by
    simp only [wsV, List.mem_append, List.mem_cons, List.not_mem_nil, or_false] at h
    rcases h with (h | h | h | h) | h | h
    · rw [h]; exact h1
    · rw [h]; exact h2
    · rw [h]; exact h3
    · rw [h]; exact h4
    · rw [h]; exact h0
    · exact h
  exact ⟨List.mem_cons_of_mem _ h9, (mBig_good w h9).2⟩
theorem gS {w1 cw : Cond} {own : String} {idx : Nat} {y : MethodName} (h0 : cw ∈ mBig) (h1 : Cond.methodLink own idx y ∈ mBig) (h2 : Cond.static y ∈ mBig) (h4 : Cond.initialized y.cls ∈ mBig) : GoodIn (w1 :: mBig) (va_wsS own idx y (cw :: mBig)) := by
  intro w h
  have h9 : w ∈ mBig := by
    simp only [va_wsS, List.mem_append, List.mem_cons, List.not_mem_nil, or_false] at h
    rcases h with (h | h | h) | h | h
    · rw [h]; exact h1
    · rw [h]; exact h2
    · rw [h]; exact h4
    · rw [h]; exact h0
    · exact h
  exact ⟨List.mem_cons_of_mem _ h9, (mBig_good w h9).2⟩
theorem gI {w1 cw : Cond} (h0 : cw ∈ mBig) : GoodIn (w1 :: mBig) (cw :: mBig) := by
  intro w h
  have h9 : w ∈ mBig := by
    rcases List.mem_cons.mp h with h | h
    · rw [h]; exact h0
    · exact h
  exact ⟨List.mem_cons_of_mem _ h9, (mBig_good w h9).2⟩
theorem at0_IllegalArgumentException : ∀ w ∈ vx_atS "EdgeWear" 54 "java/lang/IllegalArgumentException" ["java/lang/RuntimeException", "java/lang/Exception"], w ∈ mBig ∨ w ∈ mYw := by decide +kernel
theorem good_IllegalArgumentException : ∀ w ∈ Cond.classLink "EdgeWear" 50 "java/lang/IllegalArgumentException" :: Cond.initialized "java/lang/IllegalArgumentException" :: vx_atS "EdgeWear" 54 "java/lang/IllegalArgumentException" ["java/lang/RuntimeException", "java/lang/Exception"], vx_ot w = true := by decide +kernel
theorem at_IllegalArgumentException {args : Array Value} {s : State} (hT : ∀ w ∈ mBig, w.before args s = true) (hy : mY s) : ∀ w ∈ vx_atS "EdgeWear" 54 "java/lang/IllegalArgumentException" ["java/lang/RuntimeException", "java/lang/Exception"], w.before args s = true := fun w h => (at0_IllegalArgumentException w h).elim (hT w) (fun h => hy.use h)
theorem at0_IllegalStateException : ∀ w ∈ vx_atS "EdgeWear" 64 "java/lang/IllegalStateException" ["java/lang/RuntimeException", "java/lang/Exception"], w ∈ mBig ∨ w ∈ mYw := by decide +kernel
theorem good_IllegalStateException : ∀ w ∈ Cond.classLink "EdgeWear" 60 "java/lang/IllegalStateException" :: Cond.initialized "java/lang/IllegalStateException" :: vx_atS "EdgeWear" 64 "java/lang/IllegalStateException" ["java/lang/RuntimeException", "java/lang/Exception"], vx_ot w = true := by decide +kernel
theorem at_IllegalStateException {args : Array Value} {s : State} (hT : ∀ w ∈ mBig, w.before args s = true) (hy : mY s) : ∀ w ∈ vx_atS "EdgeWear" 64 "java/lang/IllegalStateException" ["java/lang/RuntimeException", "java/lang/Exception"], w.before args s = true := fun w h => (at0_IllegalStateException w h).elim (hT w) (fun h => hy.use h)
theorem at0_IndexOutOfBoundsException : ∀ w ∈ vx_atS "EdgeWear" 135 "java/lang/IndexOutOfBoundsException" ["java/lang/RuntimeException", "java/lang/Exception"], w ∈ mBig ∨ w ∈ mYw := by decide +kernel
theorem good_IndexOutOfBoundsException : ∀ w ∈ Cond.classLink "EdgeWear" 131 "java/lang/IndexOutOfBoundsException" :: Cond.initialized "java/lang/IndexOutOfBoundsException" :: vx_atS "EdgeWear" 135 "java/lang/IndexOutOfBoundsException" ["java/lang/RuntimeException", "java/lang/Exception"], vx_ot w = true := by decide +kernel
theorem at_IndexOutOfBoundsException {args : Array Value} {s : State} (hT : ∀ w ∈ mBig, w.before args s = true) (hy : mY s) : ∀ w ∈ vx_atS "EdgeWear" 135 "java/lang/IndexOutOfBoundsException" ["java/lang/RuntimeException", "java/lang/Exception"], w.before args s = true := fun w h => (at0_IndexOutOfBoundsException w h).elim (hT w) (fun h => hy.use h)
theorem lg_gt (x y : Int64) : (0 < lg_cmp x y) ↔ y < x := by
  unfold lg_cmp
  by_cases h : x > y
  · simp [h]
  · by_cases h2 : x = y
    · simp [h2]
    · simp [h, h2]
theorem lg_le (x y : Int64) : (lg_cmp x y ≤ 0) ↔ ¬ y < x := by
  rw [← lg_gt]
  exact Int32.not_lt.symm
theorem lg_eq (x y : Int64) : (lg_cmp x y = 0) ↔ x = y := by
  unfold lg_cmp
  by_cases h : x > y
  · have : x ≠ y := fun e => by rw [e] at h; exact Int64.lt_irrefl h
    simp [h, this]
  · by_cases h2 : x = y
    · simp [h2]
    · simp [h, h2]
theorem lg_lt (x y : Int64) : (lg_cmp x y < 0) ↔ x < y := by
  unfold lg_cmp
  simp only [gt_iff_lt, Int64.lt_iff_toInt_lt, ← Int64.toInt_inj]
  repeat' split
  · rename_i h; constructor
    · intro q; exact absurd q (by decide)
    · intro q; omega
  · rename_i h h2; constructor
    · intro q; exact absurd q (by decide)
    · intro q; omega
  · rename_i h h2; constructor
    · intro q; omega
    · intro q; decide
