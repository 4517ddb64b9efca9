def gM (dA : Nat → ClassId) (ad : Nat → Nat) (A : Nat → Nat → Int32) (B : Nat → Nat → Int64) (S : Nat → Int32) (sd : Int64) (G0 : mG) : mG := fun r =>
  if r = 1000 then some (.inr (6, [.int (S 0), .long sd, .int (S 2), .ref (ad 1003), .ref (ad 1004), .ref (ad 1005), .ref (ad 1006), .ref (ad 1007), .ref (ad 1008), .ref (ad 1009), .ref (ad 1010), .ref (ad 1011), .ref (ad 1012), .ref (ad 1013), .ref (ad 1014), .ref (ad 1015), .ref (ad 1016), .int (S 17), .int (S 18), .int (S 19), .int (S 20), .ref (ad 1021), .ref (ad 1022), .ref (ad 1023), .ref (ad 1024), .ref (ad 1025), .int (S 26), .int (S 27)])) else
  if r = 1003 then some (.inl (dA 0, 12, .inl (A 3))) else
  if r = 1004 then some (.inl (dA 0, 12, .inl (A 4))) else
  if r = 1005 then some (.inl (dA 0, 12, .inl (A 5))) else
  if r = 1006 then some (.inl (dA 1, 12, .inr (.inl (B 6)))) else
  if r = 1007 then some (.inl (dA 2, 12, .inl (A 7))) else
  if r = 1008 then some (.inl (dA 2, 12, .inl (A 8))) else
  if r = 1009 then some (.inl (dA 0, 12, .inl (A 9))) else
  if r = 1010 then some (.inl (dA 0, 12, .inl (A 10))) else
  if r = 1011 then some (.inl (dA 1, 16, .inr (.inl (B 11)))) else
  if r = 1012 then some (.inl (dA 1, 4, .inr (.inl (B 12)))) else
  if r = 1013 then some (.inl (dA 0, 160, .inl (A 13))) else
  if r = 1014 then some (.inl (dA 0, 4, .inl (A 14))) else
  if r = 1015 then some (.inl (dA 1, 4, .inr (.inl (B 15)))) else
  if r = 1016 then some (.inl (dA 1, 4, .inr (.inl (B 16)))) else
  if r = 1021 then some (.inl (dA 0, 288, .inl (A 21))) else
  if r = 1022 then some (.inl (dA 0, 12, .inl (A 22))) else
  if r = 1023 then some (.inl (dA 0, 12, .inl (A 23))) else
  if r = 1024 then some (.inl (dA 0, 16, .inl (A 24))) else
  if r = 1025 then some (.inl (dA 0, 16, .inl (A 25))) else
  G0 r
theorem gM_o {dA : Nat → ClassId} {ad : Nat → Nat} {A : Nat → Nat → Int32} {B : Nat → Nat → Int64} {S : Nat → Int32} {sd : Int64} {G0 : mG} : gM dA ad A B S sd G0 1000 = some (.inr (6, [.int (S 0), .long sd, .int (S 2), .ref (ad 1003), .ref (ad 1004), .ref (ad 1005), .ref (ad 1006), .ref (ad 1007), .ref (ad 1008), .ref (ad 1009), .ref (ad 1010), .ref (ad 1011), .ref (ad 1012), .ref (ad 1013), .ref (ad 1014), .ref (ad 1015), .ref (ad 1016), .int (S 17), .int (S 18), .int (S 19), .int (S 20), .ref (ad 1021), .ref (ad 1022), .ref (ad 1023), .ref (ad 1024), .ref (ad 1025), .int (S 26), .int (S 27)])) := rfl
theorem gM_3 {dA : Nat → ClassId} {ad : Nat → Nat} {A : Nat → Nat → Int32} {B : Nat → Nat → Int64} {S : Nat → Int32} {sd : Int64} {G0 : mG} : gM dA ad A B S sd G0 1003 = some (.inl (dA 0, 12, .inl (A 3))) := rfl
theorem gM_4 {dA : Nat → ClassId} {ad : Nat → Nat} {A : Nat → Nat → Int32} {B : Nat → Nat → Int64} {S : Nat → Int32} {sd : Int64} {G0 : mG} : gM dA ad A B S sd G0 1004 = some (.inl (dA 0, 12, .inl (A 4))) := rfl
theorem gM_5 {dA : Nat → ClassId} {ad : Nat → Nat} {A : Nat → Nat → Int32} {B : Nat → Nat → Int64} {S : Nat → Int32} {sd : Int64} {G0 : mG} : gM dA ad A B S sd G0 1005 = some (.inl (dA 0, 12, .inl (A 5))) := rfl
theorem gM_6 {dA : Nat → ClassId} {ad : Nat → Nat} {A : Nat → Nat → Int32} {B : Nat → Nat → Int64} {S : Nat → Int32} {sd : Int64} {G0 : mG} : gM dA ad A B S sd G0 1006 = some (.inl (dA 1, 12, .inr (.inl (B 6)))) := rfl
theorem gM_7 {dA : Nat → ClassId} {ad : Nat → Nat} {A : Nat → Nat → Int32} {B : Nat → Nat → Int64} {S : Nat → Int32} {sd : Int64} {G0 : mG} : gM dA ad A B S sd G0 1007 = some (.inl (dA 2, 12, .inl (A 7))) := rfl
theorem gM_8 {dA : Nat → ClassId} {ad : Nat → Nat} {A : Nat → Nat → Int32} {B : Nat → Nat → Int64} {S : Nat → Int32} {sd : Int64} {G0 : mG} : gM dA ad A B S sd G0 1008 = some (.inl (dA 2, 12, .inl (A 8))) := rfl
theorem gM_9 {dA : Nat → ClassId} {ad : Nat → Nat} {A : Nat → Nat → Int32} {B : Nat → Nat → Int64} {S : Nat → Int32} {sd : Int64} {G0 : mG} : gM dA ad A B S sd G0 1009 = some (.inl (dA 0, 12, .inl (A 9))) := rfl
theorem gM_10 {dA : Nat → ClassId} {ad : Nat → Nat} {A : Nat → Nat → Int32} {B : Nat → Nat → Int64} {S : Nat → Int32} {sd : Int64} {G0 : mG} : gM dA ad A B S sd G0 1010 = some (.inl (dA 0, 12, .inl (A 10))) := rfl
theorem gM_11 {dA : Nat → ClassId} {ad : Nat → Nat} {A : Nat → Nat → Int32} {B : Nat → Nat → Int64} {S : Nat → Int32} {sd : Int64} {G0 : mG} : gM dA ad A B S sd G0 1011 = some (.inl (dA 1, 16, .inr (.inl (B 11)))) := rfl
theorem gM_12 {dA : Nat → ClassId} {ad : Nat → Nat} {A : Nat → Nat → Int32} {B : Nat → Nat → Int64} {S : Nat → Int32} {sd : Int64} {G0 : mG} : gM dA ad A B S sd G0 1012 = some (.inl (dA 1, 4, .inr (.inl (B 12)))) := rfl
theorem gM_13 {dA : Nat → ClassId} {ad : Nat → Nat} {A : Nat → Nat → Int32} {B : Nat → Nat → Int64} {S : Nat → Int32} {sd : Int64} {G0 : mG} : gM dA ad A B S sd G0 1013 = some (.inl (dA 0, 160, .inl (A 13))) := rfl
theorem gM_14 {dA : Nat → ClassId} {ad : Nat → Nat} {A : Nat → Nat → Int32} {B : Nat → Nat → Int64} {S : Nat → Int32} {sd : Int64} {G0 : mG} : gM dA ad A B S sd G0 1014 = some (.inl (dA 0, 4, .inl (A 14))) := rfl
theorem gM_15 {dA : Nat → ClassId} {ad : Nat → Nat} {A : Nat → Nat → Int32} {B : Nat → Nat → Int64} {S : Nat → Int32} {sd : Int64} {G0 : mG} : gM dA ad A B S sd G0 1015 = some (.inl (dA 1, 4, .inr (.inl (B 15)))) := rfl
theorem gM_16 {dA : Nat → ClassId} {ad : Nat → Nat} {A : Nat → Nat → Int32} {B : Nat → Nat → Int64} {S : Nat → Int32} {sd : Int64} {G0 : mG} : gM dA ad A B S sd G0 1016 = some (.inl (dA 1, 4, .inr (.inl (B 16)))) := rfl
theorem gM_21 {dA : Nat → ClassId} {ad : Nat → Nat} {A : Nat → Nat → Int32} {B : Nat → Nat → Int64} {S : Nat → Int32} {sd : Int64} {G0 : mG} : gM dA ad A B S sd G0 1021 = some (.inl (dA 0, 288, .inl (A 21))) := rfl
theorem gM_22 {dA : Nat → ClassId} {ad : Nat → Nat} {A : Nat → Nat → Int32} {B : Nat → Nat → Int64} {S : Nat → Int32} {sd : Int64} {G0 : mG} : gM dA ad A B S sd G0 1022 = some (.inl (dA 0, 12, .inl (A 22))) := rfl
theorem gM_23 {dA : Nat → ClassId} {ad : Nat → Nat} {A : Nat → Nat → Int32} {B : Nat → Nat → Int64} {S : Nat → Int32} {sd : Int64} {G0 : mG} : gM dA ad A B S sd G0 1023 = some (.inl (dA 0, 12, .inl (A 23))) := rfl
theorem gM_24 {dA : Nat → ClassId} {ad : Nat → Nat} {A : Nat → Nat → Int32} {B : Nat → Nat → Int64} {S : Nat → Int32} {sd : Int64} {G0 : mG} : gM dA ad A B S sd G0 1024 = some (.inl (dA 0, 16, .inl (A 24))) := rfl
theorem gM_25 {dA : Nat → ClassId} {ad : Nat → Nat} {A : Nat → Nat → Int32} {B : Nat → Nat → Int64} {S : Nat → Int32} {sd : Int64} {G0 : mG} : gM dA ad A B S sd G0 1025 = some (.inl (dA 0, 16, .inl (A 25))) := rfl
theorem gM_out {dA : Nat → ClassId} {ad : Nat → Nat} {A : Nat → Nat → Int32} {B : Nat → Nat → Int64} {S : Nat → Int32} {sd : Int64} {G0 : mG} {r : Nat} (h : r < 1000 ∨ 1100 ≤ r) : gM dA ad A B S sd G0 r = G0 r := by
  unfold gM
  rw [if_neg (show ¬ r = 1000 by omega), if_neg (show ¬ r = 1003 by omega), if_neg (show ¬ r = 1004 by omega), if_neg (show ¬ r = 1005 by omega), if_neg (show ¬ r = 1006 by omega), if_neg (show ¬ r = 1007 by omega), if_neg (show ¬ r = 1008 by omega), if_neg (show ¬ r = 1009 by omega), if_neg (show ¬ r = 1010 by omega), if_neg (show ¬ r = 1011 by omega), if_neg (show ¬ r = 1012 by omega), if_neg (show ¬ r = 1013 by omega), if_neg (show ¬ r = 1014 by omega), if_neg (show ¬ r = 1015 by omega), if_neg (show ¬ r = 1016 by omega), if_neg (show ¬ r = 1021 by omega), if_neg (show ¬ r = 1022 by omega), if_neg (show ¬ r = 1023 by omega), if_neg (show ¬ r = 1024 by omega), if_neg (show ¬ r = 1025 by omega)]
theorem gM_uo {dA : Nat → ClassId} {ad : Nat → Nat} {A : Nat → Nat → Int32} {B : Nat → Nat → Int64} {S : Nat → Int32} {sd : Int64} {G0 : mG} (S1 : Nat → Int32) : va_up (gM dA ad A B S sd G0) 1000 (some (.inr (6, [.int (S1 0), .long sd, .int (S1 2), .ref (ad 1003), .ref (ad 1004), .ref (ad 1005), .ref (ad 1006), .ref (ad 1007), .ref (ad 1008), .ref (ad 1009), .ref (ad 1010), .ref (ad 1011), .ref (ad 1012), .ref (ad 1013), .ref (ad 1014), .ref (ad 1015), .ref (ad 1016), .int (S1 17), .int (S1 18), .int (S1 19), .int (S1 20), .ref (ad 1021), .ref (ad 1022), .ref (ad 1023), .ref (ad 1024), .ref (ad 1025), .int (S1 26), .int (S1 27)]))) = gM dA ad A B S1 sd G0 := by
  funext r
  by_cases hr : r = 1000
  · rw [hr, va_up_self]
    rfl
  · rw [va_up_ne _ _ hr]
    unfold gM
    simp only [hr, if_false]

theorem gM_u3 {dA : Nat → ClassId} {ad : Nat → Nat} {A : Nat → Nat → Int32} {B : Nat → Nat → Int64} {S : Nat → Int32} {sd : Int64} {G0 : mG} (f : Nat → Int32) : va_up (gM dA ad A B S sd G0) 1003 (some (.inl (dA 0, 12, .inl f))) = gM dA ad (va_up A 3 f) B S sd G0 := by
  funext r
  by_cases hr : r = 1003
  · rw [hr, va_up_self]
    rfl
  · rw [va_up_ne _ _ hr]
    unfold gM
    rw [show va_up A 3 f 4 = A 4 from va_up_ne _ _ (by decide), show va_up A 3 f 5 = A 5 from va_up_ne _ _ (by decide), show va_up A 3 f 7 = A 7 from va_up_ne _ _ (by decide), show va_up A 3 f 8 = A 8 from va_up_ne _ _ (by decide), show va_up A 3 f 9 = A 9 from va_up_ne _ _ (by decide), show va_up A 3 f 10 = A 10 from va_up_ne _ _ (by decide), show va_up A 3 f 13 = A 13 from va_up_ne _ _ (by decide), show va_up A 3 f 14 = A 14 from va_up_ne _ _ (by decide), show va_up A 3 f 21 = A 21 from va_up_ne _ _ (by decide), show va_up A 3 f 22 = A 22 from va_up_ne _ _ (by decide), show va_up A 3 f 23 = A 23 from va_up_ne _ _ (by decide), show va_up A 3 f 24 = A 24 from va_up_ne _ _ (by decide), show va_up A 3 f 25 = A 25 from va_up_ne _ _ (by decide)]
    simp only [hr, if_false]

theorem gM_u4 {dA : Nat → ClassId} {ad : Nat → Nat} {A : Nat → Nat → Int32} {B : Nat → Nat → Int64} {S : Nat → Int32} {sd : Int64} {G0 : mG} (f : Nat → Int32) : va_up (gM dA ad A B S sd G0) 1004 (some (.inl (dA 0, 12, .inl f))) = gM dA ad (va_up A 4 f) B S sd G0 := by
  funext r
  by_cases hr : r = 1004
  · rw [hr, va_up_self]
    rfl
  · rw [va_up_ne _ _ hr]
    unfold gM
    rw [show va_up A 4 f 3 = A 3 from va_up_ne _ _ (by decide), show va_up A 4 f 5 = A 5 from va_up_ne _ _ (by decide), show va_up A 4 f 7 = A 7 from va_up_ne _ _ (by decide), show va_up A 4 f 8 = A 8 from va_up_ne _ _ (by decide), show va_up A 4 f 9 = A 9 from va_up_ne _ _ (by decide), show va_up A 4 f 10 = A 10 from va_up_ne _ _ (by decide), show va_up A 4 f 13 = A 13 from va_up_ne _ _ (by decide), show va_up A 4 f 14 = A 14 from va_up_ne _ _ (by decide), show va_up A 4 f 21 = A 21 from va_up_ne _ _ (by decide), show va_up A 4 f 22 = A 22 from va_up_ne _ _ (by decide), show va_up A 4 f 23 = A 23 from va_up_ne _ _ (by decide), show va_up A 4 f 24 = A 24 from va_up_ne _ _ (by decide), show va_up A 4 f 25 = A 25 from va_up_ne _ _ (by decide)]
    simp only [hr, if_false]

theorem gM_u5 {dA : Nat → ClassId} {ad : Nat → Nat} {A : Nat → Nat → Int32} {B : Nat → Nat → Int64} {S : Nat → Int32} {sd : Int64} {G0 : mG} (f : Nat → Int32) : va_up (gM dA ad A B S sd G0) 1005 (some (.inl (dA 0, 12, .inl f))) = gM dA ad (va_up A 5 f) B S sd G0 := by
  funext r
  by_cases hr : r = 1005
  · rw [hr, va_up_self]
    rfl
  · rw [va_up_ne _ _ hr]
    unfold gM
    rw [show va_up A 5 f 3 = A 3 from va_up_ne _ _ (by decide), show va_up A 5 f 4 = A 4 from va_up_ne _ _ (by decide), show va_up A 5 f 7 = A 7 from va_up_ne _ _ (by decide), show va_up A 5 f 8 = A 8 from va_up_ne _ _ (by decide), show va_up A 5 f 9 = A 9 from va_up_ne _ _ (by decide), show va_up A 5 f 10 = A 10 from va_up_ne _ _ (by decide), show va_up A 5 f 13 = A 13 from va_up_ne _ _ (by decide), show va_up A 5 f 14 = A 14 from va_up_ne _ _ (by decide), show va_up A 5 f 21 = A 21 from va_up_ne _ _ (by decide), show va_up A 5 f 22 = A 22 from va_up_ne _ _ (by decide), show va_up A 5 f 23 = A 23 from va_up_ne _ _ (by decide), show va_up A 5 f 24 = A 24 from va_up_ne _ _ (by decide), show va_up A 5 f 25 = A 25 from va_up_ne _ _ (by decide)]
    simp only [hr, if_false]

theorem gM_u6 {dA : Nat → ClassId} {ad : Nat → Nat} {A : Nat → Nat → Int32} {B : Nat → Nat → Int64} {S : Nat → Int32} {sd : Int64} {G0 : mG} (f : Nat → Int64) : va_up (gM dA ad A B S sd G0) 1006 (some (.inl (dA 1, 12, .inr (.inl f)))) = gM dA ad A (va_up B 6 f) S sd G0 := by
  funext r
  by_cases hr : r = 1006
  · rw [hr, va_up_self]
    rfl
  · rw [va_up_ne _ _ hr]
    unfold gM
    rw [show va_up B 6 f 11 = B 11 from va_up_ne _ _ (by decide), show va_up B 6 f 12 = B 12 from va_up_ne _ _ (by decide), show va_up B 6 f 15 = B 15 from va_up_ne _ _ (by decide), show va_up B 6 f 16 = B 16 from va_up_ne _ _ (by decide)]
    simp only [hr, if_false]

theorem gM_u7 {dA : Nat → ClassId} {ad : Nat → Nat} {A : Nat → Nat → Int32} {B : Nat → Nat → Int64} {S : Nat → Int32} {sd : Int64} {G0 : mG} (f : Nat → Int32) : va_up (gM dA ad A B S sd G0) 1007 (some (.inl (dA 2, 12, .inl f))) = gM dA ad (va_up A 7 f) B S sd G0 := by
  funext r
  by_cases hr : r = 1007
  · rw [hr, va_up_self]
    rfl
  · rw [va_up_ne _ _ hr]
    unfold gM
    rw [show va_up A 7 f 3 = A 3 from va_up_ne _ _ (by decide), show va_up A 7 f 4 = A 4 from va_up_ne _ _ (by decide), show va_up A 7 f 5 = A 5 from va_up_ne _ _ (by decide), show va_up A 7 f 8 = A 8 from va_up_ne _ _ (by decide), show va_up A 7 f 9 = A 9 from va_up_ne _ _ (by decide), show va_up A 7 f 10 = A 10 from va_up_ne _ _ (by decide), show va_up A 7 f 13 = A 13 from va_up_ne _ _ (by decide), show va_up A 7 f 14 = A 14 from va_up_ne _ _ (by decide), show va_up A 7 f 21 = A 21 from va_up_ne _ _ (by decide), show va_up A 7 f 22 = A 22 from va_up_ne _ _ (by decide), show va_up A 7 f 23 = A 23 from va_up_ne _ _ (by decide), show va_up A 7 f 24 = A 24 from va_up_ne _ _ (by decide), show va_up A 7 f 25 = A 25 from va_up_ne _ _ (by decide)]
    simp only [hr, if_false]

theorem gM_u8 {dA : Nat → ClassId} {ad : Nat → Nat} {A : Nat → Nat → Int32} {B : Nat → Nat → Int64} {S : Nat → Int32} {sd : Int64} {G0 : mG} (f : Nat → Int32) : va_up (gM dA ad A B S sd G0) 1008 (some (.inl (dA 2, 12, .inl f))) = gM dA ad (va_up A 8 f) B S sd G0 := by
  funext r
  by_cases hr : r = 1008
  · rw [hr, va_up_self]
    rfl
  · rw [va_up_ne _ _ hr]
    unfold gM
    rw [show va_up A 8 f 3 = A 3 from va_up_ne _ _ (by decide), show va_up A 8 f 4 = A 4 from va_up_ne _ _ (by decide), show va_up A 8 f 5 = A 5 from va_up_ne _ _ (by decide), show va_up A 8 f 7 = A 7 from va_up_ne _ _ (by decide), show va_up A 8 f 9 = A 9 from va_up_ne _ _ (by decide), show va_up A 8 f 10 = A 10 from va_up_ne _ _ (by decide), show va_up A 8 f 13 = A 13 from va_up_ne _ _ (by decide), show va_up A 8 f 14 = A 14 from va_up_ne _ _ (by decide), show va_up A 8 f 21 = A 21 from va_up_ne _ _ (by decide), show va_up A 8 f 22 = A 22 from va_up_ne _ _ (by decide), show va_up A 8 f 23 = A 23 from va_up_ne _ _ (by decide), show va_up A 8 f 24 = A 24 from va_up_ne _ _ (by decide), show va_up A 8 f 25 = A 25 from va_up_ne _ _ (by decide)]
    simp only [hr, if_false]

theorem gM_u9 {dA : Nat → ClassId} {ad : Nat → Nat} {A : Nat → Nat → Int32} {B : Nat → Nat → Int64} {S : Nat → Int32} {sd : Int64} {G0 : mG} (f : Nat → Int32) : va_up (gM dA ad A B S sd G0) 1009 (some (.inl (dA 0, 12, .inl f))) = gM dA ad (va_up A 9 f) B S sd G0 := by
  funext r
  by_cases hr : r = 1009
  · rw [hr, va_up_self]
    rfl
  · rw [va_up_ne _ _ hr]
    unfold gM
    rw [show va_up A 9 f 3 = A 3 from va_up_ne _ _ (by decide), show va_up A 9 f 4 = A 4 from va_up_ne _ _ (by decide), show va_up A 9 f 5 = A 5 from va_up_ne _ _ (by decide), show va_up A 9 f 7 = A 7 from va_up_ne _ _ (by decide), show va_up A 9 f 8 = A 8 from va_up_ne _ _ (by decide), show va_up A 9 f 10 = A 10 from va_up_ne _ _ (by decide), show va_up A 9 f 13 = A 13 from va_up_ne _ _ (by decide), show va_up A 9 f 14 = A 14 from va_up_ne _ _ (by decide), show va_up A 9 f 21 = A 21 from va_up_ne _ _ (by decide), show va_up A 9 f 22 = A 22 from va_up_ne _ _ (by decide), show va_up A 9 f 23 = A 23 from va_up_ne _ _ (by decide), show va_up A 9 f 24 = A 24 from va_up_ne _ _ (by decide), show va_up A 9 f 25 = A 25 from va_up_ne _ _ (by decide)]
    simp only [hr, if_false]

theorem gM_u10 {dA : Nat → ClassId} {ad : Nat → Nat} {A : Nat → Nat → Int32} {B : Nat → Nat → Int64} {S : Nat → Int32} {sd : Int64} {G0 : mG} (f : Nat → Int32) : va_up (gM dA ad A B S sd G0) 1010 (some (.inl (dA 0, 12, .inl f))) = gM dA ad (va_up A 10 f) B S sd G0 := by
  funext r
  by_cases hr : r = 1010
  · rw [hr, va_up_self]
    rfl
  · rw [va_up_ne _ _ hr]
    unfold gM
    rw [show va_up A 10 f 3 = A 3 from va_up_ne _ _ (by decide), show va_up A 10 f 4 = A 4 from va_up_ne _ _ (by decide), show va_up A 10 f 5 = A 5 from va_up_ne _ _ (by decide), show va_up A 10 f 7 = A 7 from va_up_ne _ _ (by decide), show va_up A 10 f 8 = A 8 from va_up_ne _ _ (by decide), show va_up A 10 f 9 = A 9 from va_up_ne _ _ (by decide), show va_up A 10 f 13 = A 13 from va_up_ne _ _ (by decide), show va_up A 10 f 14 = A 14 from va_up_ne _ _ (by decide), show va_up A 10 f 21 = A 21 from va_up_ne _ _ (by decide), show va_up A 10 f 22 = A 22 from va_up_ne _ _ (by decide), show va_up A 10 f 23 = A 23 from va_up_ne _ _ (by decide), show va_up A 10 f 24 = A 24 from va_up_ne _ _ (by decide), show va_up A 10 f 25 = A 25 from va_up_ne _ _ (by decide)]
    simp only [hr, if_false]

theorem gM_u11 {dA : Nat → ClassId} {ad : Nat → Nat} {A : Nat → Nat → Int32} {B : Nat → Nat → Int64} {S : Nat → Int32} {sd : Int64} {G0 : mG} (f : Nat → Int64) : va_up (gM dA ad A B S sd G0) 1011 (some (.inl (dA 1, 16, .inr (.inl f)))) = gM dA ad A (va_up B 11 f) S sd G0 := by
  funext r
  by_cases hr : r = 1011
  · rw [hr, va_up_self]
    rfl
  · rw [va_up_ne _ _ hr]
    unfold gM
    rw [show va_up B 11 f 6 = B 6 from va_up_ne _ _ (by decide), show va_up B 11 f 12 = B 12 from va_up_ne _ _ (by decide), show va_up B 11 f 15 = B 15 from va_up_ne _ _ (by decide), show va_up B 11 f 16 = B 16 from va_up_ne _ _ (by decide)]
    simp only [hr, if_false]

theorem gM_u12 {dA : Nat → ClassId} {ad : Nat → Nat} {A : Nat → Nat → Int32} {B : Nat → Nat → Int64} {S : Nat → Int32} {sd : Int64} {G0 : mG} (f : Nat → Int64) : va_up (gM dA ad A B S sd G0) 1012 (some (.inl (dA 1, 4, .inr (.inl f)))) = gM dA ad A (va_up B 12 f) S sd G0 := by
  funext r
  by_cases hr : r = 1012
  · rw [hr, va_up_self]
    rfl
  · rw [va_up_ne _ _ hr]
    unfold gM
    rw [show va_up B 12 f 6 = B 6 from va_up_ne _ _ (by decide), show va_up B 12 f 11 = B 11 from va_up_ne _ _ (by decide), show va_up B 12 f 15 = B 15 from va_up_ne _ _ (by decide), show va_up B 12 f 16 = B 16 from va_up_ne _ _ (by decide)]
    simp only [hr, if_false]

theorem gM_u13 {dA : Nat → ClassId} {ad : Nat → Nat} {A : Nat → Nat → Int32} {B : Nat → Nat → Int64} {S : Nat → Int32} {sd : Int64} {G0 : mG} (f : Nat → Int32) : va_up (gM dA ad A B S sd G0) 1013 (some (.inl (dA 0, 160, .inl f))) = gM dA ad (va_up A 13 f) B S sd G0 := by
  funext r
  by_cases hr : r = 1013
  · rw [hr, va_up_self]
    rfl
  · rw [va_up_ne _ _ hr]
    unfold gM
    rw [show va_up A 13 f 3 = A 3 from va_up_ne _ _ (by decide), show va_up A 13 f 4 = A 4 from va_up_ne _ _ (by decide), show va_up A 13 f 5 = A 5 from va_up_ne _ _ (by decide), show va_up A 13 f 7 = A 7 from va_up_ne _ _ (by decide), show va_up A 13 f 8 = A 8 from va_up_ne _ _ (by decide), show va_up A 13 f 9 = A 9 from va_up_ne _ _ (by decide), show va_up A 13 f 10 = A 10 from va_up_ne _ _ (by decide), show va_up A 13 f 14 = A 14 from va_up_ne _ _ (by decide), show va_up A 13 f 21 = A 21 from va_up_ne _ _ (by decide), show va_up A 13 f 22 = A 22 from va_up_ne _ _ (by decide), show va_up A 13 f 23 = A 23 from va_up_ne _ _ (by decide), show va_up A 13 f 24 = A 24 from va_up_ne _ _ (by decide), show va_up A 13 f 25 = A 25 from va_up_ne _ _ (by decide)]
    simp only [hr, if_false]

theorem gM_u14 {dA : Nat → ClassId} {ad : Nat → Nat} {A : Nat → Nat → Int32} {B : Nat → Nat → Int64} {S : Nat → Int32} {sd : Int64} {G0 : mG} (f : Nat → Int32) : va_up (gM dA ad A B S sd G0) 1014 (some (.inl (dA 0, 4, .inl f))) = gM dA ad (va_up A 14 f) B S sd G0 := by
  funext r
  by_cases hr : r = 1014
  · rw [hr, va_up_self]
    rfl
  · rw [va_up_ne _ _ hr]
    unfold gM
    rw [show va_up A 14 f 3 = A 3 from va_up_ne _ _ (by decide), show va_up A 14 f 4 = A 4 from va_up_ne _ _ (by decide), show va_up A 14 f 5 = A 5 from va_up_ne _ _ (by decide), show va_up A 14 f 7 = A 7 from va_up_ne _ _ (by decide), show va_up A 14 f 8 = A 8 from va_up_ne _ _ (by decide), show va_up A 14 f 9 = A 9 from va_up_ne _ _ (by decide), show va_up A 14 f 10 = A 10 from va_up_ne _ _ (by decide), show va_up A 14 f 13 = A 13 from va_up_ne _ _ (by decide), show va_up A 14 f 21 = A 21 from va_up_ne _ _ (by decide), show va_up A 14 f 22 = A 22 from va_up_ne _ _ (by decide), show va_up A 14 f 23 = A 23 from va_up_ne _ _ (by decide), show va_up A 14 f 24 = A 24 from va_up_ne _ _ (by decide), show va_up A 14 f 25 = A 25 from va_up_ne _ _ (by decide)]
    simp only [hr, if_false]

theorem gM_u15 {dA : Nat → ClassId} {ad : Nat → Nat} {A : Nat → Nat → Int32} {B : Nat → Nat → Int64} {S : Nat → Int32} {sd : Int64} {G0 : mG} (f : Nat → Int64) : va_up (gM dA ad A B S sd G0) 1015 (some (.inl (dA 1, 4, .inr (.inl f)))) = gM dA ad A (va_up B 15 f) S sd G0 := by
  funext r
  by_cases hr : r = 1015
  · rw [hr, va_up_self]
    rfl
  · rw [va_up_ne _ _ hr]
    unfold gM
    rw [show va_up B 15 f 6 = B 6 from va_up_ne _ _ (by decide), show va_up B 15 f 11 = B 11 from va_up_ne _ _ (by decide), show va_up B 15 f 12 = B 12 from va_up_ne _ _ (by decide), show va_up B 15 f 16 = B 16 from va_up_ne _ _ (by decide)]
    simp only [hr, if_false]

theorem gM_u16 {dA : Nat → ClassId} {ad : Nat → Nat} {A : Nat → Nat → Int32} {B : Nat → Nat → Int64} {S : Nat → Int32} {sd : Int64} {G0 : mG} (f : Nat → Int64) : va_up (gM dA ad A B S sd G0) 1016 (some (.inl (dA 1, 4, .inr (.inl f)))) = gM dA ad A (va_up B 16 f) S sd G0 := by
  funext r
  by_cases hr : r = 1016
  · rw [hr, va_up_self]
    rfl
  · rw [va_up_ne _ _ hr]
    unfold gM
    rw [show va_up B 16 f 6 = B 6 from va_up_ne _ _ (by decide), show va_up B 16 f 11 = B 11 from va_up_ne _ _ (by decide), show va_up B 16 f 12 = B 12 from va_up_ne _ _ (by decide), show va_up B 16 f 15 = B 15 from va_up_ne _ _ (by decide)]
    simp only [hr, if_false]

theorem gM_u21 {dA : Nat → ClassId} {ad : Nat → Nat} {A : Nat → Nat → Int32} {B : Nat → Nat → Int64} {S : Nat → Int32} {sd : Int64} {G0 : mG} (f : Nat → Int32) : va_up (gM dA ad A B S sd G0) 1021 (some (.inl (dA 0, 288, .inl f))) = gM dA ad (va_up A 21 f) B S sd G0 := by
  funext r
  by_cases hr : r = 1021
  · rw [hr, va_up_self]
    rfl
  · rw [va_up_ne _ _ hr]
    unfold gM
    rw [show va_up A 21 f 3 = A 3 from va_up_ne _ _ (by decide), show va_up A 21 f 4 = A 4 from va_up_ne _ _ (by decide), show va_up A 21 f 5 = A 5 from va_up_ne _ _ (by decide), show va_up A 21 f 7 = A 7 from va_up_ne _ _ (by decide), show va_up A 21 f 8 = A 8 from va_up_ne _ _ (by decide), show va_up A 21 f 9 = A 9 from va_up_ne _ _ (by decide), show va_up A 21 f 10 = A 10 from va_up_ne _ _ (by decide), show va_up A 21 f 13 = A 13 from va_up_ne _ _ (by decide), show va_up A 21 f 14 = A 14 from va_up_ne _ _ (by decide), show va_up A 21 f 22 = A 22 from va_up_ne _ _ (by decide), show va_up A 21 f 23 = A 23 from va_up_ne _ _ (by decide), show va_up A 21 f 24 = A 24 from va_up_ne _ _ (by decide), show va_up A 21 f 25 = A 25 from va_up_ne _ _ (by decide)]
    simp only [hr, if_false]

theorem gM_u22 {dA : Nat → ClassId} {ad : Nat → Nat} {A : Nat → Nat → Int32} {B : Nat → Nat → Int64} {S : Nat → Int32} {sd : Int64} {G0 : mG} (f : Nat → Int32) : va_up (gM dA ad A B S sd G0) 1022 (some (.inl (dA 0, 12, .inl f))) = gM dA ad (va_up A 22 f) B S sd G0 := by
  funext r
  by_cases hr : r = 1022
  · rw [hr, va_up_self]
    rfl
  · rw [va_up_ne _ _ hr]
    unfold gM
    rw [show va_up A 22 f 3 = A 3 from va_up_ne _ _ (by decide), show va_up A 22 f 4 = A 4 from va_up_ne _ _ (by decide), show va_up A 22 f 5 = A 5 from va_up_ne _ _ (by decide), show va_up A 22 f 7 = A 7 from va_up_ne _ _ (by decide), show va_up A 22 f 8 = A 8 from va_up_ne _ _ (by decide), show va_up A 22 f 9 = A 9 from va_up_ne _ _ (by decide), show va_up A 22 f 10 = A 10 from va_up_ne _ _ (by decide), show va_up A 22 f 13 = A 13 from va_up_ne _ _ (by decide), show va_up A 22 f 14 = A 14 from va_up_ne _ _ (by decide), show va_up A 22 f 21 = A 21 from va_up_ne _ _ (by decide), show va_up A 22 f 23 = A 23 from va_up_ne _ _ (by decide), show va_up A 22 f 24 = A 24 from va_up_ne _ _ (by decide), show va_up A 22 f 25 = A 25 from va_up_ne _ _ (by decide)]
    simp only [hr, if_false]

theorem gM_u23 {dA : Nat → ClassId} {ad : Nat → Nat} {A : Nat → Nat → Int32} {B : Nat → Nat → Int64} {S : Nat → Int32} {sd : Int64} {G0 : mG} (f : Nat → Int32) : va_up (gM dA ad A B S sd G0) 1023 (some (.inl (dA 0, 12, .inl f))) = gM dA ad (va_up A 23 f) B S sd G0 := by
  funext r
  by_cases hr : r = 1023
  · rw [hr, va_up_self]
    rfl
  · rw [va_up_ne _ _ hr]
    unfold gM
    rw [show va_up A 23 f 3 = A 3 from va_up_ne _ _ (by decide), show va_up A 23 f 4 = A 4 from va_up_ne _ _ (by decide), show va_up A 23 f 5 = A 5 from va_up_ne _ _ (by decide), show va_up A 23 f 7 = A 7 from va_up_ne _ _ (by decide), show va_up A 23 f 8 = A 8 from va_up_ne _ _ (by decide), show va_up A 23 f 9 = A 9 from va_up_ne _ _ (by decide), show va_up A 23 f 10 = A 10 from va_up_ne _ _ (by decide), show va_up A 23 f 13 = A 13 from va_up_ne _ _ (by decide), show va_up A 23 f 14 = A 14 from va_up_ne _ _ (by decide), show va_up A 23 f 21 = A 21 from va_up_ne _ _ (by decide), show va_up A 23 f 22 = A 22 from va_up_ne _ _ (by decide), show va_up A 23 f 24 = A 24 from va_up_ne _ _ (by decide), show va_up A 23 f 25 = A 25 from va_up_ne _ _ (by decide)]
    simp only [hr, if_false]

theorem gM_u24 {dA : Nat → ClassId} {ad : Nat → Nat} {A : Nat → Nat → Int32} {B : Nat → Nat → Int64} {S : Nat → Int32} {sd : Int64} {G0 : mG} (f : Nat → Int32) : va_up (gM dA ad A B S sd G0) 1024 (some (.inl (dA 0, 16, .inl f))) = gM dA ad (va_up A 24 f) B S sd G0 := by
  funext r
  by_cases hr : r = 1024
  · rw [hr, va_up_self]
    rfl
  · rw [va_up_ne _ _ hr]
    unfold gM
    rw [show va_up A 24 f 3 = A 3 from va_up_ne _ _ (by decide), show va_up A 24 f 4 = A 4 from va_up_ne _ _ (by decide), show va_up A 24 f 5 = A 5 from va_up_ne _ _ (by decide), show va_up A 24 f 7 = A 7 from va_up_ne _ _ (by decide), show va_up A 24 f 8 = A 8 from va_up_ne _ _ (by decide), show va_up A 24 f 9 = A 9 from va_up_ne _ _ (by decide), show va_up A 24 f 10 = A 10 from va_up_ne _ _ (by decide), show va_up A 24 f 13 = A 13 from va_up_ne _ _ (by decide), show va_up A 24 f 14 = A 14 from va_up_ne _ _ (by decide), show va_up A 24 f 21 = A 21 from va_up_ne _ _ (by decide), show va_up A 24 f 22 = A 22 from va_up_ne _ _ (by decide), show va_up A 24 f 23 = A 23 from va_up_ne _ _ (by decide), show va_up A 24 f 25 = A 25 from va_up_ne _ _ (by decide)]
    simp only [hr, if_false]

theorem gM_u25 {dA : Nat → ClassId} {ad : Nat → Nat} {A : Nat → Nat → Int32} {B : Nat → Nat → Int64} {S : Nat → Int32} {sd : Int64} {G0 : mG} (f : Nat → Int32) : va_up (gM dA ad A B S sd G0) 1025 (some (.inl (dA 0, 16, .inl f))) = gM dA ad (va_up A 25 f) B S sd G0 := by
  funext r
  by_cases hr : r = 1025
  · rw [hr, va_up_self]
    rfl
  · rw [va_up_ne _ _ hr]
    unfold gM
    rw [show va_up A 25 f 3 = A 3 from va_up_ne _ _ (by decide), show va_up A 25 f 4 = A 4 from va_up_ne _ _ (by decide), show va_up A 25 f 5 = A 5 from va_up_ne _ _ (by decide), show va_up A 25 f 7 = A 7 from va_up_ne _ _ (by decide), show va_up A 25 f 8 = A 8 from va_up_ne _ _ (by decide), show va_up A 25 f 9 = A 9 from va_up_ne _ _ (by decide), show va_up A 25 f 10 = A 10 from va_up_ne _ _ (by decide), show va_up A 25 f 13 = A 13 from va_up_ne _ _ (by decide), show va_up A 25 f 14 = A 14 from va_up_ne _ _ (by decide), show va_up A 25 f 21 = A 21 from va_up_ne _ _ (by decide), show va_up A 25 f 22 = A 22 from va_up_ne _ _ (by decide), show va_up A 25 f 23 = A 23 from va_up_ne _ _ (by decide), show va_up A 25 f 24 = A 24 from va_up_ne _ _ (by decide)]
    simp only [hr, if_false]

theorem inI {p lo hi : Int32} : (lo.toInt64 ≤ p.toInt64 ∧ p.toInt64 ≤ hi.toInt64) ↔ ¬ (p < lo ∨ hi < p) := by
  rw [Int64.le_iff_toInt_le, Int64.le_iff_toInt_le, Int32.lt_iff_toInt_lt, Int32.lt_iff_toInt_lt, Int32.toInt_toInt64, Int32.toInt_toInt64, Int32.toInt_toInt64]
  omega
theorem noT_split {p : Int32} {tc : Nat} : (¬ ∃ i, i < tc ∧ p = nI i) ∨ ∃ i, i < tc ∧ p = nI i := (Classical.em _).symm
