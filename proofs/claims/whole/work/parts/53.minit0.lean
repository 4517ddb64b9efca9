def mA0 : Nat → Nat → Int32 := fun k i => if k = 23 ∧ i < 12 then -1 else 0
def mB0 : Nat → Nat → Int64 := fun k i => if k = 11 ∧ i < 16 then 1 else if k = 12 ∧ i < 4 then 1000000 else if (k = 15 ∨ k = 16) ∧ i < 4 then 1 else 0
def mS0 : Nat → Int32 := fun k => if k = 17 then 1000 else if k = 18 then 4 else if k = 19 then 500 else if k = 20 then 600 else 0
theorem m_z1003 : mA0 3 = fun _ => 0 := by
  funext i
  simp [mA0]
theorem m_z1004 : mA0 4 = fun _ => 0 := by
  funext i
  simp [mA0]
theorem m_z1005 : mA0 5 = fun _ => 0 := by
  funext i
  simp [mA0]
theorem m_z1006 : mB0 6 = fun _ => 0 := by
  funext i
  simp [mB0]
theorem m_z1007 : mA0 7 = fun _ => 0 := by
  funext i
  simp [mA0]
theorem m_z1008 : mA0 8 = fun _ => 0 := by
  funext i
  simp [mA0]
theorem m_z1009 : mA0 9 = fun _ => 0 := by
  funext i
  simp [mA0]
theorem m_z1010 : mA0 10 = fun _ => 0 := by
  funext i
  simp [mA0]
theorem m_lit1011 : vp_updL (vp_updL (vp_updL (vp_updL (vp_updL (vp_updL (vp_updL (vp_updL (vp_updL (vp_updL (vp_updL (vp_updL (vp_updL (vp_updL (vp_updL (vp_updL (fun _ => 0) 0 1) 1 1) 2 1) 3 1) 4 1) 5 1) 6 1) 7 1) 8 1) 9 1) 10 1) 11 1) 12 1) 13 1) 14 1) 15 1 = mB0 11 := by
  funext i
  by_cases h : i < 16
  · rcases (show i = 0 ∨ i = 1 ∨ i = 2 ∨ i = 3 ∨ i = 4 ∨ i = 5 ∨ i = 6 ∨ i = 7 ∨ i = 8 ∨ i = 9 ∨ i = 10 ∨ i = 11 ∨ i = 12 ∨ i = 13 ∨ i = 14 ∨ i = 15 by omega) with rfl | rfl | rfl | rfl | rfl | rfl | rfl | rfl | rfl | rfl | rfl | rfl | rfl | rfl | rfl | rfl <;> rfl
  · simp only [vp_updL, mB0]
    rw [if_neg (show ¬ i = 15 by omega), if_neg (show ¬ i = 14 by omega), if_neg (show ¬ i = 13 by omega), if_neg (show ¬ i = 12 by omega), if_neg (show ¬ i = 11 by omega), if_neg (show ¬ i = 10 by omega), if_neg (show ¬ i = 9 by omega), if_neg (show ¬ i = 8 by omega), if_neg (show ¬ i = 7 by omega), if_neg (show ¬ i = 6 by omega), if_neg (show ¬ i = 5 by omega), if_neg (show ¬ i = 4 by omega), if_neg (show ¬ i = 3 by omega), if_neg (show ¬ i = 2 by omega), if_neg (show ¬ i = 1 by omega), if_neg (show ¬ i = 0 by omega)]
    simp [show ¬ i < 16 by omega]
theorem m_lit1012 : vp_updL (vp_updL (vp_updL (vp_updL (fun _ => 0) 0 1000000) 1 1000000) 2 1000000) 3 1000000 = mB0 12 := by
  funext i
  by_cases h : i < 4
  · rcases (show i = 0 ∨ i = 1 ∨ i = 2 ∨ i = 3 by omega) with rfl | rfl | rfl | rfl <;> rfl
  · simp only [vp_updL, mB0]
    rw [if_neg (show ¬ i = 3 by omega), if_neg (show ¬ i = 2 by omega), if_neg (show ¬ i = 1 by omega), if_neg (show ¬ i = 0 by omega)]
    simp [show ¬ i < 4 by omega]
theorem m_z1013 : mA0 13 = fun _ => 0 := by
  funext i
  simp [mA0]
theorem m_z1014 : mA0 14 = fun _ => 0 := by
  funext i
  simp [mA0]
theorem m_lit1015 : vp_updL (vp_updL (vp_updL (vp_updL (fun _ => 0) 0 1) 1 1) 2 1) 3 1 = mB0 15 := by
  funext i
  by_cases h : i < 4
  · rcases (show i = 0 ∨ i = 1 ∨ i = 2 ∨ i = 3 by omega) with rfl | rfl | rfl | rfl <;> rfl
  · simp only [vp_updL, mB0]
    rw [if_neg (show ¬ i = 3 by omega), if_neg (show ¬ i = 2 by omega), if_neg (show ¬ i = 1 by omega), if_neg (show ¬ i = 0 by omega)]
    simp [show ¬ i < 4 by omega]
theorem m_lit1016 : vp_updL (vp_updL (vp_updL (vp_updL (fun _ => 0) 0 1) 1 1) 2 1) 3 1 = mB0 16 := by
  funext i
  by_cases h : i < 4
  · rcases (show i = 0 ∨ i = 1 ∨ i = 2 ∨ i = 3 by omega) with rfl | rfl | rfl | rfl <;> rfl
  · simp only [vp_updL, mB0]
    rw [if_neg (show ¬ i = 3 by omega), if_neg (show ¬ i = 2 by omega), if_neg (show ¬ i = 1 by omega), if_neg (show ¬ i = 0 by omega)]
    simp [show ¬ i < 4 by omega]
theorem m_z1021 : mA0 21 = fun _ => 0 := by
  funext i
  simp [mA0]
theorem m_z1022 : mA0 22 = fun _ => 0 := by
  funext i
  simp [mA0]
theorem m_lit1023 : upd (upd (upd (upd (upd (upd (upd (upd (upd (upd (upd (upd (fun _ => 0) 0 (-1)) 1 (-1)) 2 (-1)) 3 (-1)) 4 (-1)) 5 (-1)) 6 (-1)) 7 (-1)) 8 (-1)) 9 (-1)) 10 (-1)) 11 (-1) = mA0 23 := by
  funext i
  by_cases h : i < 12
  · rcases (show i = 0 ∨ i = 1 ∨ i = 2 ∨ i = 3 ∨ i = 4 ∨ i = 5 ∨ i = 6 ∨ i = 7 ∨ i = 8 ∨ i = 9 ∨ i = 10 ∨ i = 11 by omega) with rfl | rfl | rfl | rfl | rfl | rfl | rfl | rfl | rfl | rfl | rfl | rfl <;> rfl
  · simp only [upd, mA0]
    rw [if_neg (show ¬ i = 11 by omega), if_neg (show ¬ i = 10 by omega), if_neg (show ¬ i = 9 by omega), if_neg (show ¬ i = 8 by omega), if_neg (show ¬ i = 7 by omega), if_neg (show ¬ i = 6 by omega), if_neg (show ¬ i = 5 by omega), if_neg (show ¬ i = 4 by omega), if_neg (show ¬ i = 3 by omega), if_neg (show ¬ i = 2 by omega), if_neg (show ¬ i = 1 by omega), if_neg (show ¬ i = 0 by omega)]
    simp [show ¬ i < 12 by omega]
theorem m_z1024 : mA0 24 = fun _ => 0 := by
  funext i
  simp [mA0]
theorem m_z1025 : mA0 25 = fun _ => 0 := by
  funext i
  simp [mA0]
