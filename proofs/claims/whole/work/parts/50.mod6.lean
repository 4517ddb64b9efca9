set_option maxHeartbeats 4000000 in
set_option maxRecDepth 100000 in
theorem c_M_power (l : Launch) (D : va_G) (dA : Nat → ClassId) (ad : Nat → Nat) (G : mG) (sz : Nat) (A : Nat → Nat → Int32) (B : Nat → Nat → Int64) (S : Nat → Int32) (sd : Int64) (G0 : mG) (hG : G = gM dA ad A B S sd G0) (tc : Nat) (hS : S 2 = nI tc) (ht : tc ≤ 12) (R : Nat) (hR : S 18 = nI (R + 1)) (hR1 : 1 ≤ R) (hR2 : R ≤ 11) (hH : ∀ i, i < 12 → ∃ c, c ≤ 24 ∧ A 22 i = nI c) (hrd : ∀ i, i < 12 → ∀ k, k < 24 → ∃ v, v ≤ 1000000 ∧ A 21 (24 * i + k) = nI v) (p0 p1 p2 : Int32) : Met l y_M_power (.code y_M_power b_M_power 5 (some .int) :: mBig) ({ frames := 2, cells := 0, slots := 0, locals := 46 }) (mPc [.ref (ad 1000), .int p0, .int p1, .int p2] D mCl (mTys dA) mTx ad G sz) (mQi (fun (rv : Int32) (u : mU) => ((¬ (∃ i, i < tc ∧ p0 = nI i) ∧ u = (ad, gM dA ad A B (va_up S 0 1) sd G0)) ∨ ((∃ t, t < tc ∧ p0 = nI t ∧ (p2 < 0 ∨ 1000000 < p2 ∨ p1 ≤ A 23 t)) ∧ u = (ad, gM dA ad A B (va_up S 0 2) sd G0)) ∨ (∃ t c9, t < tc ∧ p0 = nI t ∧ ¬ (p2 < 0 ∨ 1000000 < p2 ∨ p1 ≤ A 23 t) ∧ c9 ≤ 24 ∧ A 22 t = nI c9 ∧ eFire rv (S 17 < (mPw (A 21) t p2) (24 * t + 0)) (nI (R + 1) ≤ nI (if c9 < 24 then c9 + 1 else 24) ∧ ∀ i, i + 1 < R + 1 → (mPw (A 21) t p2) (24 * t + (i + 1)) < (mPw (A 21) t p2) (24 * t + i)) (nI (R + 1) ≤ nI (if c9 < 24 then c9 + 1 else 24) ∧ ∀ i, i < R + 1 → S 19 < (mPw (A 21) t p2) (24 * t + i)) (3 ≤ nI (if c9 < 24 then c9 + 1 else 24) ∧ S 20 < (if 0 ≤ (mPw (A 21) t p2) (24 * t + 0) - (mPw (A 21) t p2) (24 * t + 1) then (mPw (A 21) t p2) (24 * t + 0) - (mPw (A 21) t p2) (24 * t + 1) else 0 - ((mPw (A 21) t p2) (24 * t + 0) - (mPw (A 21) t p2) (24 * t + 1))) + (if 0 ≤ (mPw (A 21) t p2) (24 * t + 1) - (mPw (A 21) t p2) (24 * t + 2) then (mPw (A 21) t p2) (24 * t + 1) - (mPw (A 21) t p2) (24 * t + 2) else 0 - ((mPw (A 21) t p2) (24 * t + 1) - (mPw (A 21) t p2) (24 * t + 2)))) ∧ u = (ad, gM dA ad (va_up (va_up (va_up A 23 (upd (A 23) t p1)) 21 (mPw (A 21) t p2)) 22 (upd (A 22) t (nI (if c9 < 24 then c9 + 1 else 24)))) B (va_up S 0 0) sd G0)))) D mCl ad G sz) 0 0 (mA ad G sz) := by
  refine Met.ofW (cc := b_M_power) (maxL := 5) (ret := (some .int)) (by decide) rfl ?_
  intro p e s m args below meth c s₁ BB hml hv
  obtain ⟨rfl, hsz, hw0, hC⟩ := hv
  have hx := BB.exec
  have hb := BB.bytes
  have hr := BB.returns
  have hts := atoms_spec (ws := .code y_M_power b_M_power 5 (some .int) :: mBig) BB.pre
  have hT : ∀ w ∈ mBig, w.before _ s = true := fun w h => hts w (List.mem_cons_of_mem _ h)
  have hown : s.vm.findClass "EdgeWearModel" = some m.cls := findClass_of_methodNamed BB.named
  have hlocks := BB.notSynchronized
  subst hsz
  have hm := mS.start hw0
  have hA : ∀ q : Nat, s.heap.size ≤ q → mA ad G s.heap.size q := fun q h => Or.inr h
  have hl := lv_entry ([.ref (ad 1000), .int p0, .int p1, .int p2]) (n := 5) (Nat.le_of_ble_eq_true rfl)
  rw [lg_entry_eq]
  generalize (lg_sl ([.ref (ad 1000), .int p0, .int p1, .int p2]) ++ List.replicate (5 - (lg_sl ([.ref (ad 1000), .int p0, .int p1, .int p2])).length) Slot.unset).toArray = ls at hl ⊢
  have hl : lv_has ls 5 [(0, .ref (ad 1000)), (1, .int p0), (2, .int p1), (3, .int p2)] := hl
  refine lv_aload_n hx hb d_M_power_0 rfl (lv_at hl 0 rfl) ?_
  refine lv_aload_n hx hb d_M_power_1 rfl (lv_at hl 0 rfl) ?_
  refine lv_iload_n hx hb d_M_power_2 rfl (lv_at hl 1 rfl) ?_
  refine m_roi (m_runV (As := [.int p0]) (rest := [.ref (ad 1000)]) ⟨hx, hb, hml, hown, hts⟩ (c_M_noTool l D dA ad G s.heap.size A B S sd G0 hG tc hS ht p0) (cwV 1 hts (gV k_708 k_705 k_707 ks_7 k_4) rfl rfl rfl (by decide +kernel) ⟨Nat.le_of_ble_eq_true rfl, Nat.le_of_ble_eq_true rfl⟩) hm hA hC 1000 rfl ((congrFun hG 1000).trans gM_o) rfl rfl rfl hl.1 rfl (Nat.le_of_ble_eq_true rfl) d_M_power_3 ⟨Nat.le_of_ble_eq_true rfl, Nat.le_of_ble_eq_true rfl⟩) hm hA (fun r_1 H locs w_2 hm => ?_)
  refine lv_if_eq (tgt := 13) hx hb d_M_power_6 (by decide) (fun c_6 => ?_) (fun c_6 => ?_)
  · obtain ⟨t, ht2, ep⟩ := Classical.not_not.mp (bv_eq w_2 c_6)
    refine lv_iload_n hx hb d_M_power_13 rfl (lv_at hl 3 rfl) ?_
    refine lv_i2l hx hb d_M_power_14 rfl ?_
    refine lv_topl (fun x_3 ex_3 => ?_)
    refine lv_lconst (v := 0) hx hb d_M_power_15 (by decide) ?_
    refine lv_ldc2 (v := 1000000) hx hb hown (hT _ k_589) d_M_power_16 ?_
    refine m_roi (m_runS (As := [.long x_3, .long 0, .long 1000000]) (rest := [.ref (ad 1000)]) ⟨hx, hb, hml, hown, hts⟩ (c_M_isIn l D dA ad G H.size x_3 0 1000000) (va_cwS 3 hts (gS k_690 k_688 k_689 k_4) rfl rfl rfl (by decide +kernel) ⟨Nat.le_of_ble_eq_true rfl, Nat.le_of_ble_eq_true rfl⟩) hm hA hC rfl hl.1 rfl (Nat.le_of_ble_eq_true rfl) d_M_power_19 ⟨Nat.le_of_ble_eq_true rfl, Nat.le_of_ble_eq_true rfl⟩) hm hA (fun r_4 H locs w_5 hm => ?_)
    refine lv_if_eq (tgt := 35) hx hb d_M_power_22 (by decide) (fun c_22 => ?_) (fun c_22 => ?_)
    · refine lv_iconst (v := 2) hx hb d_M_power_35 (by decide) ?_
      refine lv_goto (tgt := 40) hx hb d_M_power_36 (by decide) ?_
      refine m_put (v := .int 2) (ty := .int) (C := R_M) (T := T_M) (N := 28) hx hb hT in_M t_M tok_M nm_M hown hC.1 hm 1000 rfl ((congrFun hG 1000).trans gM_o) rfl 0 (by decide) (hT _ k_590) (fun _ h9 => h9) rfl (by decide +kernel) rfl rfl (Nat.le_of_ble_eq_true rfl) d_M_power_40 (fun H locs hm => ?_)
      obtain ⟨G_6, eG_6⟩ : ∃ z : mG, z = va_up G 1000 (some (.inr (6, [.int 2, .long sd, .int (S 2), .ref (ad 1003), .ref (ad 1004), .ref (ad 1005), .ref (ad 1006), .ref (ad 1007), .ref (ad 1008), .ref (ad 1009), .ref (ad 1010), .ref (ad 1011), .ref (ad 1012), .ref (ad 1013), .ref (ad 1014), .ref (ad 1015), .ref (ad 1016), .int (S 17), .int (S 18), .int (S 19), .int (S 20), .ref (ad 1021), .ref (ad 1022), .ref (ad 1023), .ref (ad 1024), .ref (ad 1025), .int (S 26), .int (S 27)]))) := ⟨_, rfl⟩
      have hm : mS D mCl (mA ad G s.heap.size) s.heap ad G_6 H locs := by rw [eG_6]; exact hm
      have g_7 : G_6 1000 = some (.inr (6, [.int 2, .long sd, .int (S 2), .ref (ad 1003), .ref (ad 1004), .ref (ad 1005), .ref (ad 1006), .ref (ad 1007), .ref (ad 1008), .ref (ad 1009), .ref (ad 1010), .ref (ad 1011), .ref (ad 1012), .ref (ad 1013), .ref (ad 1014), .ref (ad 1015), .ref (ad 1016), .int (S 17), .int (S 18), .int (S 19), .int (S 20), .ref (ad 1021), .ref (ad 1022), .ref (ad 1023), .ref (ad 1024), .ref (ad 1025), .int (S 26), .int (S 27)])) := by rw [eG_6, va_up_self]
      have g_8 := (congrFun eG_6 1003).trans ((va_up_ne _ _ (by decide)).trans ((congrFun hG 1003).trans gM_3))
      have g_9 := (congrFun eG_6 1004).trans ((va_up_ne _ _ (by decide)).trans ((congrFun hG 1004).trans gM_4))
      have g_10 := (congrFun eG_6 1005).trans ((va_up_ne _ _ (by decide)).trans ((congrFun hG 1005).trans gM_5))
      have g_11 := (congrFun eG_6 1006).trans ((va_up_ne _ _ (by decide)).trans ((congrFun hG 1006).trans gM_6))
      have g_12 := (congrFun eG_6 1007).trans ((va_up_ne _ _ (by decide)).trans ((congrFun hG 1007).trans gM_7))
      have g_13 := (congrFun eG_6 1008).trans ((va_up_ne _ _ (by decide)).trans ((congrFun hG 1008).trans gM_8))
      have g_14 := (congrFun eG_6 1009).trans ((va_up_ne _ _ (by decide)).trans ((congrFun hG 1009).trans gM_9))
      have g_15 := (congrFun eG_6 1010).trans ((va_up_ne _ _ (by decide)).trans ((congrFun hG 1010).trans gM_10))
      have g_16 := (congrFun eG_6 1011).trans ((va_up_ne _ _ (by decide)).trans ((congrFun hG 1011).trans gM_11))
      have g_17 := (congrFun eG_6 1012).trans ((va_up_ne _ _ (by decide)).trans ((congrFun hG 1012).trans gM_12))
      have g_18 := (congrFun eG_6 1013).trans ((va_up_ne _ _ (by decide)).trans ((congrFun hG 1013).trans gM_13))
      have g_19 := (congrFun eG_6 1014).trans ((va_up_ne _ _ (by decide)).trans ((congrFun hG 1014).trans gM_14))
      have g_20 := (congrFun eG_6 1015).trans ((va_up_ne _ _ (by decide)).trans ((congrFun hG 1015).trans gM_15))
      have g_21 := (congrFun eG_6 1016).trans ((va_up_ne _ _ (by decide)).trans ((congrFun hG 1016).trans gM_16))
      have g_22 := (congrFun eG_6 1021).trans ((va_up_ne _ _ (by decide)).trans ((congrFun hG 1021).trans gM_21))
      have g_23 := (congrFun eG_6 1022).trans ((va_up_ne _ _ (by decide)).trans ((congrFun hG 1022).trans gM_22))
      have g_24 := (congrFun eG_6 1023).trans ((va_up_ne _ _ (by decide)).trans ((congrFun hG 1023).trans gM_23))
      have g_25 := (congrFun eG_6 1024).trans ((va_up_ne _ _ (by decide)).trans ((congrFun hG 1024).trans gM_24))
      have g_26 := (congrFun eG_6 1025).trans ((va_up_ne _ _ (by decide)).trans ((congrFun hG 1025).trans gM_25))
      have hG : G_6 = gM dA ad A B (va_up S 0 2) sd G0 := by rw [eG_6, hG]; exact gM_uo (va_up S 0 2)
      refine lv_aload_n hx hb d_M_power_43 rfl (lv_at hl 0 rfl) ?_
      refine m_get (v := .int 2) (C := R_M) (T := T_M) (N := 28) hx hb hT in_M hown hC.1 hm 1000 rfl g_7 rfl 0 (by decide) (hT _ k_590) (fun _ h9 => h9) rfl d_M_power_44 ?_
      refine lv_if_le (tgt := 52) hx hb d_M_power_47 (by decide) (fun c9 => absurd c9 (by decide)) (fun _ => ?_)
      refine lv_iconst (v := 0) hx hb d_M_power_50 (by decide) ?_
      exact m_iret (v := 0) hx hb hr hm (Or.inr (Or.inl ⟨⟨t, ht2, ep, (show p2 < 0 ∨ 1000000 < p2 from (Classical.not_not.mp (fun q => bv_eq w_5 c_22 (by rw [ex_3]; exact (inJ (p := p2) (lo := 0) (hi := 1000000) (a := 0) (b := 1000000) (by decide) (by decide)).mpr q)))).elim Or.inl (fun h => Or.inr (Or.inl h))⟩, by rw [hG]⟩)) d_M_power_51 hlocks
    · refine lv_iload_n hx hb d_M_power_25 rfl (lv_at hl 2 rfl) ?_
      refine lv_aload_n hx hb d_M_power_26 rfl (lv_at hl 0 rfl) ?_
      refine m_get (v := .ref (ad 1023)) (C := R_M) (T := T_M) (N := 28) hx hb hT in_M hown hC.1 hm 1000 rfl ((congrFun hG 1000).trans gM_o) rfl 23 (by decide) (hT _ k_613) (fun _ h9 => h9) rfl d_M_power_27 ?_
      refine lv_iload_n hx hb d_M_power_30 rfl (lv_at hl 1 rfl) ?_
      refine m_iald (v := A 23 t) hx hb hC.1 hm 1023 rfl 0 ((congrFun hG 1023).trans gM_23) rfl (by rw [ep]; exact vp_in_nI (by omega) (by decide)) (by rw [ep, nI_clamp (by omega)]) d_M_power_31 ?_
      refine lv_icmp_gt (tgt := 39) hx hb d_M_power_32 (by decide) (fun c_32 => ?_) (fun c_32 => ?_)
      · refine lv_iconst (v := 0) hx hb d_M_power_39 (by decide) ?_
        refine m_put (v := .int 0) (ty := .int) (C := R_M) (T := T_M) (N := 28) hx hb hT in_M t_M tok_M nm_M hown hC.1 hm 1000 rfl ((congrFun hG 1000).trans gM_o) rfl 0 (by decide) (hT _ k_590) (fun _ h9 => h9) rfl (by decide +kernel) rfl rfl (Nat.le_of_ble_eq_true rfl) d_M_power_40 (fun H locs hm => ?_)
        obtain ⟨G_27, eG_27⟩ : ∃ z : mG, z = va_up G 1000 (some (.inr (6, [.int 0, .long sd, .int (S 2), .ref (ad 1003), .ref (ad 1004), .ref (ad 1005), .ref (ad 1006), .ref (ad 1007), .ref (ad 1008), .ref (ad 1009), .ref (ad 1010), .ref (ad 1011), .ref (ad 1012), .ref (ad 1013), .ref (ad 1014), .ref (ad 1015), .ref (ad 1016), .int (S 17), .int (S 18), .int (S 19), .int (S 20), .ref (ad 1021), .ref (ad 1022), .ref (ad 1023), .ref (ad 1024), .ref (ad 1025), .int (S 26), .int (S 27)]))) := ⟨_, rfl⟩
        have hm : mS D mCl (mA ad G s.heap.size) s.heap ad G_27 H locs := by rw [eG_27]; exact hm
        have g_28 : G_27 1000 = some (.inr (6, [.int 0, .long sd, .int (S 2), .ref (ad 1003), .ref (ad 1004), .ref (ad 1005), .ref (ad 1006), .ref (ad 1007), .ref (ad 1008), .ref (ad 1009), .ref (ad 1010), .ref (ad 1011), .ref (ad 1012), .ref (ad 1013), .ref (ad 1014), .ref (ad 1015), .ref (ad 1016), .int (S 17), .int (S 18), .int (S 19), .int (S 20), .ref (ad 1021), .ref (ad 1022), .ref (ad 1023), .ref (ad 1024), .ref (ad 1025), .int (S 26), .int (S 27)])) := by rw [eG_27, va_up_self]
        have g_29 := (congrFun eG_27 1003).trans ((va_up_ne _ _ (by decide)).trans ((congrFun hG 1003).trans gM_3))
        have g_30 := (congrFun eG_27 1004).trans ((va_up_ne _ _ (by decide)).trans ((congrFun hG 1004).trans gM_4))
        have g_31 := (congrFun eG_27 1005).trans ((va_up_ne _ _ (by decide)).trans ((congrFun hG 1005).trans gM_5))
        have g_32 := (congrFun eG_27 1006).trans ((va_up_ne _ _ (by decide)).trans ((congrFun hG 1006).trans gM_6))
        have g_33 := (congrFun eG_27 1007).trans ((va_up_ne _ _ (by decide)).trans ((congrFun hG 1007).trans gM_7))
        have g_34 := (congrFun eG_27 1008).trans ((va_up_ne _ _ (by decide)).trans ((congrFun hG 1008).trans gM_8))
        have g_35 := (congrFun eG_27 1009).trans ((va_up_ne _ _ (by decide)).trans ((congrFun hG 1009).trans gM_9))
        have g_36 := (congrFun eG_27 1010).trans ((va_up_ne _ _ (by decide)).trans ((congrFun hG 1010).trans gM_10))
        have g_37 := (congrFun eG_27 1011).trans ((va_up_ne _ _ (by decide)).trans ((congrFun hG 1011).trans gM_11))
        have g_38 := (congrFun eG_27 1012).trans ((va_up_ne _ _ (by decide)).trans ((congrFun hG 1012).trans gM_12))
        have g_39 := (congrFun eG_27 1013).trans ((va_up_ne _ _ (by decide)).trans ((congrFun hG 1013).trans gM_13))
        have g_40 := (congrFun eG_27 1014).trans ((va_up_ne _ _ (by decide)).trans ((congrFun hG 1014).trans gM_14))
        have g_41 := (congrFun eG_27 1015).trans ((va_up_ne _ _ (by decide)).trans ((congrFun hG 1015).trans gM_15))
        have g_42 := (congrFun eG_27 1016).trans ((va_up_ne _ _ (by decide)).trans ((congrFun hG 1016).trans gM_16))
        have g_43 := (congrFun eG_27 1021).trans ((va_up_ne _ _ (by decide)).trans ((congrFun hG 1021).trans gM_21))
        have g_44 := (congrFun eG_27 1022).trans ((va_up_ne _ _ (by decide)).trans ((congrFun hG 1022).trans gM_22))
        have g_45 := (congrFun eG_27 1023).trans ((va_up_ne _ _ (by decide)).trans ((congrFun hG 1023).trans gM_23))
        have g_46 := (congrFun eG_27 1024).trans ((va_up_ne _ _ (by decide)).trans ((congrFun hG 1024).trans gM_24))
        have g_47 := (congrFun eG_27 1025).trans ((va_up_ne _ _ (by decide)).trans ((congrFun hG 1025).trans gM_25))
        have hG : G_27 = gM dA ad A B (va_up S 0 0) sd G0 := by rw [eG_27, hG]; exact gM_uo (va_up S 0 0)
        refine lv_aload_n hx hb d_M_power_43 rfl (lv_at hl 0 rfl) ?_
        refine m_get (v := .int 0) (C := R_M) (T := T_M) (N := 28) hx hb hT in_M hown hC.1 hm 1000 rfl g_28 rfl 0 (by decide) (hT _ k_590) (fun _ h9 => h9) rfl d_M_power_44 ?_
        refine lv_if_le (tgt := 52) hx hb d_M_power_47 (by decide) (fun _ => ?_) (fun c9 => absurd (by decide) c9)
        have hpb : ¬ (p2 < 0 ∨ 1000000 < p2 ∨ p1 ≤ A 23 t) := by
          have h1 : ¬ (p2 < 0 ∨ 1000000 < p2) := (inJ (p := p2) (lo := 0) (hi := 1000000) (a := 0) (b := 1000000) (by decide) (by decide)).mp (by have h9 := bv_ne w_5 c_22; rw [ex_3] at h9; exact h9)
          exact fun h => h.elim (fun h => h1 (Or.inl h)) (fun h => h.elim (fun h => h1 (Or.inr h)) (fun h => Int32.not_lt.mpr h c_32))
        obtain ⟨c9, hc9, ec9⟩ := hH t (by omega)
        refine lv_aload_n hx hb d_M_power_52 rfl (lv_at hl 0 rfl) ?_
        refine m_get (v := .ref (ad 1023)) (C := R_M) (T := T_M) (N := 28) hx hb hT in_M hown hC.1 hm 1000 rfl g_28 rfl 23 (by decide) (hT _ k_613) (fun _ h9 => h9) rfl d_M_power_53 ?_
        refine lv_iload_n hx hb d_M_power_56 rfl (lv_at hl 1 rfl) ?_
        refine lv_iload_n hx hb d_M_power_57 rfl (lv_at hl 2 rfl) ?_
        refine m_iast hx hb hC.1 hm 1023 rfl 0 g_45 rfl (by rw [ep]; exact vp_in_nI (by omega) (by decide)) d_M_power_58 (fun H locs hm => ?_)
        rw [show (p0).toNatClampNeg = t by rw [ep, nI_clamp (by omega)]] at hm
        obtain ⟨G_48, eG_48⟩ : ∃ z : mG, z = va_up G_27 1023 (some (.inl ((dA 0), 12, .inl (upd (A 23) t p1)))) := ⟨_, rfl⟩
        have hm : mS D mCl (mA ad G s.heap.size) s.heap ad G_48 H locs := by rw [eG_48]; exact hm
        have g_49 := (congrFun eG_48 1000).trans ((va_up_ne _ _ (by decide)).trans g_28)
        have g_50 := (congrFun eG_48 1003).trans ((va_up_ne _ _ (by decide)).trans g_29)
        have g_51 := (congrFun eG_48 1004).trans ((va_up_ne _ _ (by decide)).trans g_30)
        have g_52 := (congrFun eG_48 1005).trans ((va_up_ne _ _ (by decide)).trans g_31)
        have g_53 := (congrFun eG_48 1006).trans ((va_up_ne _ _ (by decide)).trans g_32)
        have g_54 := (congrFun eG_48 1007).trans ((va_up_ne _ _ (by decide)).trans g_33)
        have g_55 := (congrFun eG_48 1008).trans ((va_up_ne _ _ (by decide)).trans g_34)
        have g_56 := (congrFun eG_48 1009).trans ((va_up_ne _ _ (by decide)).trans g_35)
        have g_57 := (congrFun eG_48 1010).trans ((va_up_ne _ _ (by decide)).trans g_36)
        have g_58 := (congrFun eG_48 1011).trans ((va_up_ne _ _ (by decide)).trans g_37)
        have g_59 := (congrFun eG_48 1012).trans ((va_up_ne _ _ (by decide)).trans g_38)
        have g_60 := (congrFun eG_48 1013).trans ((va_up_ne _ _ (by decide)).trans g_39)
        have g_61 := (congrFun eG_48 1014).trans ((va_up_ne _ _ (by decide)).trans g_40)
        have g_62 := (congrFun eG_48 1015).trans ((va_up_ne _ _ (by decide)).trans g_41)
        have g_63 := (congrFun eG_48 1016).trans ((va_up_ne _ _ (by decide)).trans g_42)
        have g_64 := (congrFun eG_48 1021).trans ((va_up_ne _ _ (by decide)).trans g_43)
        have g_65 := (congrFun eG_48 1022).trans ((va_up_ne _ _ (by decide)).trans g_44)
        have g_66 : G_48 1023 = some (.inl ((dA 0), 12, .inl (upd (A 23) t p1))) := by rw [eG_48, va_up_self]
        have g_67 := (congrFun eG_48 1024).trans ((va_up_ne _ _ (by decide)).trans g_46)
        have g_68 := (congrFun eG_48 1025).trans ((va_up_ne _ _ (by decide)).trans g_47)
        have hG : G_48 = gM dA ad (va_up A 23 (upd (A 23) t p1)) B (va_up S 0 0) sd G0 := by rw [eG_48, hG]; exact gM_u23 _
        refine lv_bipush (v := 23) hx hb d_M_power_59 (by decide) ?_
        refine lv_istore (lv' := [(4, .int 23), (0, .ref (ad 1000)), (1, .int p0), (2, .int p1), (3, .int p2)]) hx hb d_M_power_61 hl (by decide) rfl (fun ls hl => ?_)
        have hm : mS D mCl (mA ad G s.heap.size) s.heap ad (gM dA ad (va_up (va_up A 23 (upd (A 23) t p1)) 21 (mShF (A 21) t 23)) B (va_up S 0 0) sd G0) H locs := by
          rw [mShF_23, show va_up (va_up A 23 (upd (A 23) t p1)) 21 (A 21) = va_up A 23 (upd (A 23) t p1) from va_id (va_up A 23 (upd (A 23) t p1)) 21, ← hG]
          exact hm
        refine m_loopH (nL := 5) (head := 63) (fun (q9 : Nat) => fun (x : Nat) => match x with | j => q9 = j + 1 ∧ j ≤ 23 ∧ True) (fun (x : Nat) => match x with | j => [(0, .ref (ad 1000)), (1, .int p0), (2, .int p1), (3, .int p2), (4, .int (nI j))]) (fun (x : Nat) => match x with | j => gM dA ad (va_up (va_up A 23 (upd (A 23) t p1)) 21 (mShF (A 21) t j)) B (va_up S 0 0) sd G0) (fun j h => by have h1 := h.1; have h2 := h.2.1; omega) (fun q9 x ls H locs hI hl hm ih63 => ?_) (23) (23) (⟨rfl, by decide, trivial⟩) (lv_sub hl [1, 2, 3, 4, 0] rfl) hm
        obtain ⟨j, ej⟩ : ∃ z, z = x := ⟨_, rfl⟩
        subst ej
        replace hI : (fun (q9 : Nat) => q9 = j + 1 ∧ j ≤ 23 ∧ True) (q9 + 1) := hI
        have hl : lv_has ls 5 [(0, .ref (ad 1000)), (1, .int p0), (2, .int p1), (3, .int p2), (4, .int (nI j))] := hl
        obtain ⟨Gj, hG⟩ : ∃ z : mG, z = gM dA ad (va_up (va_up A 23 (upd (A 23) t p1)) 21 (mShF (A 21) t j)) B (va_up S 0 0) sd G0 := ⟨_, rfl⟩
        replace hm : mS D mCl (mA ad G s.heap.size) s.heap ad Gj H locs := by rw [hG]; exact hm
        have g_69 : Gj 1000 = some (.inr (6, [.int 0, .long sd, .int (S 2), .ref (ad 1003), .ref (ad 1004), .ref (ad 1005), .ref (ad 1006), .ref (ad 1007), .ref (ad 1008), .ref (ad 1009), .ref (ad 1010), .ref (ad 1011), .ref (ad 1012), .ref (ad 1013), .ref (ad 1014), .ref (ad 1015), .ref (ad 1016), .int (S 17), .int (S 18), .int (S 19), .int (S 20), .ref (ad 1021), .ref (ad 1022), .ref (ad 1023), .ref (ad 1024), .ref (ad 1025), .int (S 26), .int (S 27)])) := (congrFun hG 1000).trans gM_o
        have g_70 : Gj 1003 = some (.inl ((dA 0), 12, .inl (A 3))) := (congrFun hG 1003).trans gM_3
        have g_71 : Gj 1004 = some (.inl ((dA 0), 12, .inl (A 4))) := (congrFun hG 1004).trans gM_4
        have g_72 : Gj 1005 = some (.inl ((dA 0), 12, .inl (A 5))) := (congrFun hG 1005).trans gM_5
        have g_73 : Gj 1006 = some (.inl ((dA 1), 12, .inr (.inl (B 6)))) := (congrFun hG 1006).trans gM_6
        have g_74 : Gj 1007 = some (.inl ((dA 2), 12, .inl (A 7))) := (congrFun hG 1007).trans gM_7
        have g_75 : Gj 1008 = some (.inl ((dA 2), 12, .inl (A 8))) := (congrFun hG 1008).trans gM_8
        have g_76 : Gj 1009 = some (.inl ((dA 0), 12, .inl (A 9))) := (congrFun hG 1009).trans gM_9
        have g_77 : Gj 1010 = some (.inl ((dA 0), 12, .inl (A 10))) := (congrFun hG 1010).trans gM_10
        have g_78 : Gj 1011 = some (.inl ((dA 1), 16, .inr (.inl (B 11)))) := (congrFun hG 1011).trans gM_11
        have g_79 : Gj 1012 = some (.inl ((dA 1), 4, .inr (.inl (B 12)))) := (congrFun hG 1012).trans gM_12
        have g_80 : Gj 1013 = some (.inl ((dA 0), 160, .inl (A 13))) := (congrFun hG 1013).trans gM_13
        have g_81 : Gj 1014 = some (.inl ((dA 0), 4, .inl (A 14))) := (congrFun hG 1014).trans gM_14
        have g_82 : Gj 1015 = some (.inl ((dA 1), 4, .inr (.inl (B 15)))) := (congrFun hG 1015).trans gM_15
        have g_83 : Gj 1016 = some (.inl ((dA 1), 4, .inr (.inl (B 16)))) := (congrFun hG 1016).trans gM_16
        have g_84 : Gj 1021 = some (.inl ((dA 0), 288, .inl (mShF (A 21) t j))) := (congrFun hG 1021).trans gM_21
        have g_85 : Gj 1022 = some (.inl ((dA 0), 12, .inl (A 22))) := (congrFun hG 1022).trans gM_22
        have g_86 : Gj 1023 = some (.inl ((dA 0), 12, .inl (upd (A 23) t p1))) := (congrFun hG 1023).trans gM_23
        have g_87 : Gj 1024 = some (.inl ((dA 0), 16, .inl (A 24))) := (congrFun hG 1024).trans gM_24
        have g_88 : Gj 1025 = some (.inl ((dA 0), 16, .inl (A 25))) := (congrFun hG 1025).trans gM_25
        refine lv_iload hx hb d_M_power_63 (lv_at hl 4 rfl) ?_
        refine lv_if_le (tgt := 100) hx hb d_M_power_65 (by decide) (fun c_65 => ?_) (fun c_65 => ?_)
        · have hj0 : j = 0 := by
            have h9 := c_65
            have : ¬ 0 < j := fun q => nI_nle q (by omega) h9
            omega
          subst hj0
          refine lv_aload_n hx hb d_M_power_100 rfl (lv_at hl 0 rfl) ?_
          refine m_get (v := .ref (ad 1021)) (C := R_M) (T := T_M) (N := 28) hx hb hT in_M hown hC.1 hm 1000 rfl g_69 rfl 21 (by decide) (hT _ k_611) (fun _ h9 => h9) rfl d_M_power_101 ?_
          refine lv_bipush (v := 24) hx hb d_M_power_104 (by decide) ?_
          refine lv_iload_n hx hb d_M_power_106 rfl (lv_at hl 1 rfl) ?_
          refine lv_imul hx hb d_M_power_107 ?_
          refine lv_topi (fun x_89 ex_89 => ?_)
          have hix3 : x_89 = nI (24 * t) := by rw [ex_89, ep, show (24 : Int32) = nI 24 from rfl, pk_mul]
          refine lv_iload_n hx hb d_M_power_108 rfl (lv_at hl 3 rfl) ?_
          refine m_iast hx hb hC.1 hm 1021 rfl 0 g_84 rfl (by rw [hix3]; exact vp_in_nI (by omega) (by decide)) d_M_power_109 (fun H locs hm => ?_)
          rw [show (x_89).toNatClampNeg = (24 * t) by rw [hix3, nI_clamp (by omega)]] at hm
          obtain ⟨G_90, eG_90⟩ : ∃ z : mG, z = va_up Gj 1021 (some (.inl ((dA 0), 288, .inl (upd (mShF (A 21) t 0) (24 * t) p2)))) := ⟨_, rfl⟩
          have hm : mS D mCl (mA ad G s.heap.size) s.heap ad G_90 H locs := by rw [eG_90]; exact hm
          have g_91 := (congrFun eG_90 1000).trans ((va_up_ne _ _ (by decide)).trans g_69)
          have g_92 := (congrFun eG_90 1003).trans ((va_up_ne _ _ (by decide)).trans g_70)
          have g_93 := (congrFun eG_90 1004).trans ((va_up_ne _ _ (by decide)).trans g_71)
          have g_94 := (congrFun eG_90 1005).trans ((va_up_ne _ _ (by decide)).trans g_72)
          have g_95 := (congrFun eG_90 1006).trans ((va_up_ne _ _ (by decide)).trans g_73)
          have g_96 := (congrFun eG_90 1007).trans ((va_up_ne _ _ (by decide)).trans g_74)
          have g_97 := (congrFun eG_90 1008).trans ((va_up_ne _ _ (by decide)).trans g_75)
          have g_98 := (congrFun eG_90 1009).trans ((va_up_ne _ _ (by decide)).trans g_76)
          have g_99 := (congrFun eG_90 1010).trans ((va_up_ne _ _ (by decide)).trans g_77)
          have g_100 := (congrFun eG_90 1011).trans ((va_up_ne _ _ (by decide)).trans g_78)
          have g_101 := (congrFun eG_90 1012).trans ((va_up_ne _ _ (by decide)).trans g_79)
          have g_102 := (congrFun eG_90 1013).trans ((va_up_ne _ _ (by decide)).trans g_80)
          have g_103 := (congrFun eG_90 1014).trans ((va_up_ne _ _ (by decide)).trans g_81)
          have g_104 := (congrFun eG_90 1015).trans ((va_up_ne _ _ (by decide)).trans g_82)
          have g_105 := (congrFun eG_90 1016).trans ((va_up_ne _ _ (by decide)).trans g_83)
          have g_106 : G_90 1021 = some (.inl ((dA 0), 288, .inl (upd (mShF (A 21) t 0) (24 * t) p2))) := by rw [eG_90, va_up_self]
          have g_107 := (congrFun eG_90 1022).trans ((va_up_ne _ _ (by decide)).trans g_85)
          have g_108 := (congrFun eG_90 1023).trans ((va_up_ne _ _ (by decide)).trans g_86)
          have g_109 := (congrFun eG_90 1024).trans ((va_up_ne _ _ (by decide)).trans g_87)
          have g_110 := (congrFun eG_90 1025).trans ((va_up_ne _ _ (by decide)).trans g_88)
          have hG : G_90 = gM dA ad (va_up (va_up (va_up A 23 (upd (A 23) t p1)) 21 (mShF (A 21) t 0)) 21 (upd (mShF (A 21) t 0) (24 * t) p2)) B (va_up S 0 0) sd G0 := by rw [eG_90, hG]; exact gM_u21 _
          refine lv_aload_n hx hb d_M_power_110 rfl (lv_at hl 0 rfl) ?_
          refine m_get (v := .ref (ad 1022)) (C := R_M) (T := T_M) (N := 28) hx hb hT in_M hown hC.1 hm 1000 rfl g_91 rfl 22 (by decide) (hT _ k_612) (fun _ h9 => h9) rfl d_M_power_111 ?_
          refine lv_iload_n hx hb d_M_power_114 rfl (lv_at hl 1 rfl) ?_
          refine lv_aload_n hx hb d_M_power_115 rfl (lv_at hl 0 rfl) ?_
          refine m_get (v := .ref (ad 1022)) (C := R_M) (T := T_M) (N := 28) hx hb hT in_M hown hC.1 hm 1000 rfl g_91 rfl 22 (by decide) (hT _ k_612) (fun _ h9 => h9) rfl d_M_power_116 ?_
          refine lv_iload_n hx hb d_M_power_119 rfl (lv_at hl 1 rfl) ?_
          refine m_iald (v := A 22 t) hx hb hC.1 hm 1022 rfl 0 g_107 rfl (by rw [ep]; exact vp_in_nI (by omega) (by decide)) (by rw [ep, nI_clamp (by omega)]) d_M_power_120 ?_
          refine lv_bipush (v := 24) hx hb d_M_power_121 (by decide) ?_
          refine lv_icmp_ge (tgt := 137) hx hb d_M_power_123 (by decide) (fun c_123 => ?_) (fun c_123 => ?_)
          · refine lv_bipush (v := 24) hx hb d_M_power_137 (by decide) ?_
            have hge9 : ¬ c9 < 24 := fun q => by
              have h9 := c_123
              rw [ec9] at h9
              exact nI_ge (b := 24) q (by decide) h9
            have hcv : (24 : Int32) = nI (if c9 < 24 then c9 + 1 else 24) := by rw [if_neg hge9]; rfl
            refine m_iast hx hb hC.1 hm 1022 rfl 0 g_107 rfl (by rw [ep]; exact vp_in_nI (by omega) (by decide)) d_M_power_139 (fun H locs hm => ?_)
            rw [show (p0).toNatClampNeg = t by rw [ep, nI_clamp (by omega)]] at hm
            obtain ⟨G_111, eG_111⟩ : ∃ z : mG, z = va_up G_90 1022 (some (.inl ((dA 0), 12, .inl (upd (A 22) t 24)))) := ⟨_, rfl⟩
            have hm : mS D mCl (mA ad G s.heap.size) s.heap ad G_111 H locs := by rw [eG_111]; exact hm
            have g_112 := (congrFun eG_111 1000).trans ((va_up_ne _ _ (by decide)).trans g_91)
            have g_113 := (congrFun eG_111 1003).trans ((va_up_ne _ _ (by decide)).trans g_92)
            have g_114 := (congrFun eG_111 1004).trans ((va_up_ne _ _ (by decide)).trans g_93)
            have g_115 := (congrFun eG_111 1005).trans ((va_up_ne _ _ (by decide)).trans g_94)
            have g_116 := (congrFun eG_111 1006).trans ((va_up_ne _ _ (by decide)).trans g_95)
            have g_117 := (congrFun eG_111 1007).trans ((va_up_ne _ _ (by decide)).trans g_96)
            have g_118 := (congrFun eG_111 1008).trans ((va_up_ne _ _ (by decide)).trans g_97)
            have g_119 := (congrFun eG_111 1009).trans ((va_up_ne _ _ (by decide)).trans g_98)
            have g_120 := (congrFun eG_111 1010).trans ((va_up_ne _ _ (by decide)).trans g_99)
            have g_121 := (congrFun eG_111 1011).trans ((va_up_ne _ _ (by decide)).trans g_100)
            have g_122 := (congrFun eG_111 1012).trans ((va_up_ne _ _ (by decide)).trans g_101)
            have g_123 := (congrFun eG_111 1013).trans ((va_up_ne _ _ (by decide)).trans g_102)
            have g_124 := (congrFun eG_111 1014).trans ((va_up_ne _ _ (by decide)).trans g_103)
            have g_125 := (congrFun eG_111 1015).trans ((va_up_ne _ _ (by decide)).trans g_104)
            have g_126 := (congrFun eG_111 1016).trans ((va_up_ne _ _ (by decide)).trans g_105)
            have g_127 := (congrFun eG_111 1021).trans ((va_up_ne _ _ (by decide)).trans g_106)
            have g_128 : G_111 1022 = some (.inl ((dA 0), 12, .inl (upd (A 22) t 24))) := by rw [eG_111, va_up_self]
            have g_129 := (congrFun eG_111 1023).trans ((va_up_ne _ _ (by decide)).trans g_108)
            have g_130 := (congrFun eG_111 1024).trans ((va_up_ne _ _ (by decide)).trans g_109)
            have g_131 := (congrFun eG_111 1025).trans ((va_up_ne _ _ (by decide)).trans g_110)
            have hG : G_111 = gM dA ad (va_up (va_up (va_up (va_up A 23 (upd (A 23) t p1)) 21 (mShF (A 21) t 0)) 21 (upd (mShF (A 21) t 0) (24 * t) p2)) 22 (upd (A 22) t 24)) B (va_up S 0 0) sd G0 := by rw [eG_111, hG]; exact gM_u22 _
            have hcn : (va_up (va_up (va_up (va_up A 23 (upd (A 23) t p1)) 21 (mShF (A 21) t 0)) 21 (upd (mShF (A 21) t 0) (24 * t) p2)) 22 (upd (A 22) t 24)) 22 t = nI (if c9 < 24 then c9 + 1 else 24) := by
              show upd (A 22) t 24 t = _
              rw [pk_us, hcv]
            have hrr : ∀ k, k < 24 → ∃ v, v ≤ 1000000 ∧ (va_up (va_up (va_up (va_up A 23 (upd (A 23) t p1)) 21 (mShF (A 21) t 0)) 21 (upd (mShF (A 21) t 0) (24 * t) p2)) 22 (upd (A 22) t 24)) 21 (24 * t + k) = nI v := by
              intro k hk
              show ∃ v, v ≤ 1000000 ∧ mPw (A 21) t p2 (24 * t + k) = nI v
              cases k with
              | zero =>
                rw [mPw_0]
                exact nI_of2 (M := 1000000) rfl (fun h => hpb (Or.inl h)) (Int32.not_lt.mp (fun h => hpb (Or.inr (Or.inl h))))
              | succ k =>
                rw [mPw_s _ _ _ (by omega)]
                exact hrd t (by omega) k (by omega)
            refine lv_aload_n hx hb d_M_power_140 rfl (lv_at hl 0 rfl) ?_
            refine lv_iload_n hx hb d_M_power_141 rfl (lv_at hl 1 rfl) ?_
            refine m_roi (m_runV (As := [.int p0]) (rest := []) ⟨hx, hb, hml, hown, hts⟩ (c_M_fired l D dA ad G_111 H.size (va_up (va_up (va_up (va_up A 23 (upd (A 23) t p1)) 21 (mShF (A 21) t 0)) 21 (upd (mShF (A 21) t 0) (24 * t) p2)) 22 (upd (A 22) t 24)) B (va_up S 0 0) sd G0 hG p0 t R (if c9 < 24 then c9 + 1 else 24) (by omega) ep hR hR1 hR2 (by split <;> omega) hcn hrr) (cwV 1 hts (gV k_789 k_786 k_788 ks_13 k_4) rfl rfl rfl (by decide +kernel) ⟨Nat.le_of_ble_eq_true rfl, Nat.le_of_ble_eq_true rfl⟩) hm hA hC 1000 rfl g_112 rfl rfl rfl hl.1 rfl (Nat.le_of_ble_eq_true rfl) d_M_power_142 ⟨Nat.le_of_ble_eq_true rfl, Nat.le_of_ble_eq_true rfl⟩) hm hA (fun r_132 H locs w_133 hm => ?_)
            exact m_iret (v := r_132) hx hb hr hm (Or.inr (Or.inr (⟨t, c9, ht2, ep, hpb, hc9, ec9, w_133, by rw [hG, bx_uu, hcv]; rfl⟩))) d_M_power_145 hlocks
          · refine lv_aload_n hx hb d_M_power_126 rfl (lv_at hl 0 rfl) ?_
            refine m_get (v := .ref (ad 1022)) (C := R_M) (T := T_M) (N := 28) hx hb hT in_M hown hC.1 hm 1000 rfl g_91 rfl 22 (by decide) (hT _ k_612) (fun _ h9 => h9) rfl d_M_power_127 ?_
            refine lv_iload_n hx hb d_M_power_130 rfl (lv_at hl 1 rfl) ?_
            refine m_iald (v := A 22 t) hx hb hC.1 hm 1022 rfl 0 g_107 rfl (by rw [ep]; exact vp_in_nI (by omega) (by decide)) (by rw [ep, nI_clamp (by omega)]) d_M_power_131 ?_
            refine lv_iconst (v := 1) hx hb d_M_power_132 (by decide) ?_
            refine lv_iadd hx hb d_M_power_133 ?_
            refine lv_topi (fun x_134 ex_134 => ?_)
            refine lv_goto (tgt := 139) hx hb d_M_power_134 (by decide) ?_
            have hlt9 : c9 < 24 := by
              have h9 := Int32.not_le.mp c_123
              rw [ec9] at h9
              exact (nI_ltI (b := 24) (by omega) (by decide)).mp h9
            have hcv : x_134 = nI (if c9 < 24 then c9 + 1 else 24) := by rw [ex_134, ec9, nI_1, if_pos hlt9]
            refine m_iast hx hb hC.1 hm 1022 rfl 0 g_107 rfl (by rw [ep]; exact vp_in_nI (by omega) (by decide)) d_M_power_139 (fun H locs hm => ?_)
            rw [show (p0).toNatClampNeg = t by rw [ep, nI_clamp (by omega)]] at hm
            obtain ⟨G_135, eG_135⟩ : ∃ z : mG, z = va_up G_90 1022 (some (.inl ((dA 0), 12, .inl (upd (A 22) t x_134)))) := ⟨_, rfl⟩
            have hm : mS D mCl (mA ad G s.heap.size) s.heap ad G_135 H locs := by rw [eG_135]; exact hm
            have g_136 := (congrFun eG_135 1000).trans ((va_up_ne _ _ (by decide)).trans g_91)
            have g_137 := (congrFun eG_135 1003).trans ((va_up_ne _ _ (by decide)).trans g_92)
            have g_138 := (congrFun eG_135 1004).trans ((va_up_ne _ _ (by decide)).trans g_93)
            have g_139 := (congrFun eG_135 1005).trans ((va_up_ne _ _ (by decide)).trans g_94)
            have g_140 := (congrFun eG_135 1006).trans ((va_up_ne _ _ (by decide)).trans g_95)
            have g_141 := (congrFun eG_135 1007).trans ((va_up_ne _ _ (by decide)).trans g_96)
            have g_142 := (congrFun eG_135 1008).trans ((va_up_ne _ _ (by decide)).trans g_97)
            have g_143 := (congrFun eG_135 1009).trans ((va_up_ne _ _ (by decide)).trans g_98)
            have g_144 := (congrFun eG_135 1010).trans ((va_up_ne _ _ (by decide)).trans g_99)
            have g_145 := (congrFun eG_135 1011).trans ((va_up_ne _ _ (by decide)).trans g_100)
            have g_146 := (congrFun eG_135 1012).trans ((va_up_ne _ _ (by decide)).trans g_101)
            have g_147 := (congrFun eG_135 1013).trans ((va_up_ne _ _ (by decide)).trans g_102)
            have g_148 := (congrFun eG_135 1014).trans ((va_up_ne _ _ (by decide)).trans g_103)
            have g_149 := (congrFun eG_135 1015).trans ((va_up_ne _ _ (by decide)).trans g_104)
            have g_150 := (congrFun eG_135 1016).trans ((va_up_ne _ _ (by decide)).trans g_105)
            have g_151 := (congrFun eG_135 1021).trans ((va_up_ne _ _ (by decide)).trans g_106)
            have g_152 : G_135 1022 = some (.inl ((dA 0), 12, .inl (upd (A 22) t x_134))) := by rw [eG_135, va_up_self]
            have g_153 := (congrFun eG_135 1023).trans ((va_up_ne _ _ (by decide)).trans g_108)
            have g_154 := (congrFun eG_135 1024).trans ((va_up_ne _ _ (by decide)).trans g_109)
            have g_155 := (congrFun eG_135 1025).trans ((va_up_ne _ _ (by decide)).trans g_110)
            have hG : G_135 = gM dA ad (va_up (va_up (va_up (va_up A 23 (upd (A 23) t p1)) 21 (mShF (A 21) t 0)) 21 (upd (mShF (A 21) t 0) (24 * t) p2)) 22 (upd (A 22) t x_134)) B (va_up S 0 0) sd G0 := by rw [eG_135, hG]; exact gM_u22 _
            have hcn : (va_up (va_up (va_up (va_up A 23 (upd (A 23) t p1)) 21 (mShF (A 21) t 0)) 21 (upd (mShF (A 21) t 0) (24 * t) p2)) 22 (upd (A 22) t x_134)) 22 t = nI (if c9 < 24 then c9 + 1 else 24) := by
              show upd (A 22) t x_134 t = _
              rw [pk_us, hcv]
            have hrr : ∀ k, k < 24 → ∃ v, v ≤ 1000000 ∧ (va_up (va_up (va_up (va_up A 23 (upd (A 23) t p1)) 21 (mShF (A 21) t 0)) 21 (upd (mShF (A 21) t 0) (24 * t) p2)) 22 (upd (A 22) t x_134)) 21 (24 * t + k) = nI v := by
              intro k hk
              show ∃ v, v ≤ 1000000 ∧ mPw (A 21) t p2 (24 * t + k) = nI v
              cases k with
              | zero =>
                rw [mPw_0]
                exact nI_of2 (M := 1000000) rfl (fun h => hpb (Or.inl h)) (Int32.not_lt.mp (fun h => hpb (Or.inr (Or.inl h))))
              | succ k =>
                rw [mPw_s _ _ _ (by omega)]
                exact hrd t (by omega) k (by omega)
            refine lv_aload_n hx hb d_M_power_140 rfl (lv_at hl 0 rfl) ?_
            refine lv_iload_n hx hb d_M_power_141 rfl (lv_at hl 1 rfl) ?_
            refine m_roi (m_runV (As := [.int p0]) (rest := []) ⟨hx, hb, hml, hown, hts⟩ (c_M_fired l D dA ad G_135 H.size (va_up (va_up (va_up (va_up A 23 (upd (A 23) t p1)) 21 (mShF (A 21) t 0)) 21 (upd (mShF (A 21) t 0) (24 * t) p2)) 22 (upd (A 22) t x_134)) B (va_up S 0 0) sd G0 hG p0 t R (if c9 < 24 then c9 + 1 else 24) (by omega) ep hR hR1 hR2 (by split <;> omega) hcn hrr) (cwV 1 hts (gV k_789 k_786 k_788 ks_13 k_4) rfl rfl rfl (by decide +kernel) ⟨Nat.le_of_ble_eq_true rfl, Nat.le_of_ble_eq_true rfl⟩) hm hA hC 1000 rfl g_136 rfl rfl rfl hl.1 rfl (Nat.le_of_ble_eq_true rfl) d_M_power_142 ⟨Nat.le_of_ble_eq_true rfl, Nat.le_of_ble_eq_true rfl⟩) hm hA (fun r_156 H locs w_157 hm => ?_)
            exact m_iret (v := r_156) hx hb hr hm (Or.inr (Or.inr (⟨t, c9, ht2, ep, hpb, hc9, ec9, w_157, by rw [hG, bx_uu, hcv]; rfl⟩))) d_M_power_145 hlocks
        · obtain ⟨i9, rfl⟩ : ∃ i9, j = i9 + 1 := ⟨j - 1, by
            have : ¬ j = 0 := fun q => c_65 (by rw [q]; decide)
            omega⟩
          refine lv_aload_n hx hb d_M_power_68 rfl (lv_at hl 0 rfl) ?_
          refine m_get (v := .ref (ad 1021)) (C := R_M) (T := T_M) (N := 28) hx hb hT in_M hown hC.1 hm 1000 rfl g_69 rfl 21 (by decide) (hT _ k_611) (fun _ h9 => h9) rfl d_M_power_69 ?_
          refine lv_bipush (v := 24) hx hb d_M_power_72 (by decide) ?_
          refine lv_iload_n hx hb d_M_power_74 rfl (lv_at hl 1 rfl) ?_
          refine lv_imul hx hb d_M_power_75 ?_
          refine lv_topi (fun x_158 ex_158 => ?_)
          refine lv_iload hx hb d_M_power_76 (lv_at hl 4 rfl) ?_
          refine lv_iadd hx hb d_M_power_78 ?_
          refine lv_topi (fun x_159 ex_159 => ?_)
          have hix : x_159 = nI (24 * t + (i9 + 1)) := by rw [ex_159, ex_158, ep, show (24 : Int32) = nI 24 from rfl, pk_mul, nI_add]
          refine lv_aload_n hx hb d_M_power_79 rfl (lv_at hl 0 rfl) ?_
          refine m_get (v := .ref (ad 1021)) (C := R_M) (T := T_M) (N := 28) hx hb hT in_M hown hC.1 hm 1000 rfl g_69 rfl 21 (by decide) (hT _ k_611) (fun _ h9 => h9) rfl d_M_power_80 ?_
          refine lv_bipush (v := 24) hx hb d_M_power_83 (by decide) ?_
          refine lv_iload_n hx hb d_M_power_85 rfl (lv_at hl 1 rfl) ?_
          refine lv_imul hx hb d_M_power_86 ?_
          refine lv_topi (fun x_160 ex_160 => ?_)
          refine lv_iload hx hb d_M_power_87 (lv_at hl 4 rfl) ?_
          refine lv_iadd hx hb d_M_power_89 ?_
          refine lv_topi (fun x_161 ex_161 => ?_)
          refine lv_iconst (v := 1) hx hb d_M_power_90 (by decide) ?_
          refine lv_isub hx hb d_M_power_91 ?_
          refine lv_topi (fun x_162 ex_162 => ?_)
          have hix2 : x_162 = nI (24 * t + i9) := by rw [ex_162, ex_161, ex_160, ep, show (24 : Int32) = nI 24 from rfl, pk_mul, nI_add, ← Nat.add_assoc, nI_pred]
          refine m_iald (v := A 21 (24 * t + i9)) hx hb hC.1 hm 1021 rfl 0 g_84 rfl (by rw [hix2]; exact vp_in_nI (by omega) (by decide)) (by rw [hix2, nI_clamp (by omega), mShF_at (by omega)]) d_M_power_92 ?_
          refine m_iast hx hb hC.1 hm 1021 rfl 0 g_84 rfl (by rw [hix]; exact vp_in_nI (by omega) (by decide)) d_M_power_93 (fun H locs hm => ?_)
          rw [show (x_159).toNatClampNeg = (24 * t + (i9 + 1)) by rw [hix, nI_clamp (by omega)]] at hm
          obtain ⟨G_163, eG_163⟩ : ∃ z : mG, z = va_up Gj 1021 (some (.inl ((dA 0), 288, .inl (upd (mShF (A 21) t (i9 + 1)) (24 * t + (i9 + 1)) (A 21 (24 * t + i9)))))) := ⟨_, rfl⟩
          have hm : mS D mCl (mA ad G s.heap.size) s.heap ad G_163 H locs := by rw [eG_163]; exact hm
          have g_164 := (congrFun eG_163 1000).trans ((va_up_ne _ _ (by decide)).trans g_69)
          have g_165 := (congrFun eG_163 1003).trans ((va_up_ne _ _ (by decide)).trans g_70)
          have g_166 := (congrFun eG_163 1004).trans ((va_up_ne _ _ (by decide)).trans g_71)
          have g_167 := (congrFun eG_163 1005).trans ((va_up_ne _ _ (by decide)).trans g_72)
          have g_168 := (congrFun eG_163 1006).trans ((va_up_ne _ _ (by decide)).trans g_73)
          have g_169 := (congrFun eG_163 1007).trans ((va_up_ne _ _ (by decide)).trans g_74)
          have g_170 := (congrFun eG_163 1008).trans ((va_up_ne _ _ (by decide)).trans g_75)
          have g_171 := (congrFun eG_163 1009).trans ((va_up_ne _ _ (by decide)).trans g_76)
          have g_172 := (congrFun eG_163 1010).trans ((va_up_ne _ _ (by decide)).trans g_77)
          have g_173 := (congrFun eG_163 1011).trans ((va_up_ne _ _ (by decide)).trans g_78)
          have g_174 := (congrFun eG_163 1012).trans ((va_up_ne _ _ (by decide)).trans g_79)
          have g_175 := (congrFun eG_163 1013).trans ((va_up_ne _ _ (by decide)).trans g_80)
          have g_176 := (congrFun eG_163 1014).trans ((va_up_ne _ _ (by decide)).trans g_81)
          have g_177 := (congrFun eG_163 1015).trans ((va_up_ne _ _ (by decide)).trans g_82)
          have g_178 := (congrFun eG_163 1016).trans ((va_up_ne _ _ (by decide)).trans g_83)
          have g_179 : G_163 1021 = some (.inl ((dA 0), 288, .inl (upd (mShF (A 21) t (i9 + 1)) (24 * t + (i9 + 1)) (A 21 (24 * t + i9))))) := by rw [eG_163, va_up_self]
          have g_180 := (congrFun eG_163 1022).trans ((va_up_ne _ _ (by decide)).trans g_85)
          have g_181 := (congrFun eG_163 1023).trans ((va_up_ne _ _ (by decide)).trans g_86)
          have g_182 := (congrFun eG_163 1024).trans ((va_up_ne _ _ (by decide)).trans g_87)
          have g_183 := (congrFun eG_163 1025).trans ((va_up_ne _ _ (by decide)).trans g_88)
          have hG : G_163 = gM dA ad (va_up (va_up (va_up A 23 (upd (A 23) t p1)) 21 (mShF (A 21) t (i9 + 1))) 21 (upd (mShF (A 21) t (i9 + 1)) (24 * t + (i9 + 1)) (A 21 (24 * t + i9)))) B (va_up S 0 0) sd G0 := by rw [eG_163, hG]; exact gM_u21 _
          refine lv_iinc (v := nI i9) (lv' := [(4, .int (nI i9)), (0, .ref (ad 1000)), (1, .int p0), (2, .int p1), (3, .int p2)]) hx hb d_M_power_94 hl (k := 4) rfl (pk_m1 _) (by decide) rfl (fun ls hl => ?_)
          refine lv_goto (tgt := 63) hx hb d_M_power_97 (by decide) ?_
          rw [hG, bx_uu, mShF_s _ _ _ (by omega)] at hm
          exact ih63 (i9) ls H locs (⟨by omega, by omega, trivial⟩) (lv_sub hl [1, 2, 3, 4, 0] rfl) hm
      · refine lv_iconst (v := 2) hx hb d_M_power_35 (by decide) ?_
        refine lv_goto (tgt := 40) hx hb d_M_power_36 (by decide) ?_
        refine m_put (v := .int 2) (ty := .int) (C := R_M) (T := T_M) (N := 28) hx hb hT in_M t_M tok_M nm_M hown hC.1 hm 1000 rfl ((congrFun hG 1000).trans gM_o) rfl 0 (by decide) (hT _ k_590) (fun _ h9 => h9) rfl (by decide +kernel) rfl rfl (Nat.le_of_ble_eq_true rfl) d_M_power_40 (fun H locs hm => ?_)
        obtain ⟨G_184, eG_184⟩ : ∃ z : mG, z = va_up G 1000 (some (.inr (6, [.int 2, .long sd, .int (S 2), .ref (ad 1003), .ref (ad 1004), .ref (ad 1005), .ref (ad 1006), .ref (ad 1007), .ref (ad 1008), .ref (ad 1009), .ref (ad 1010), .ref (ad 1011), .ref (ad 1012), .ref (ad 1013), .ref (ad 1014), .ref (ad 1015), .ref (ad 1016), .int (S 17), .int (S 18), .int (S 19), .int (S 20), .ref (ad 1021), .ref (ad 1022), .ref (ad 1023), .ref (ad 1024), .ref (ad 1025), .int (S 26), .int (S 27)]))) := ⟨_, rfl⟩
        have hm : mS D mCl (mA ad G s.heap.size) s.heap ad G_184 H locs := by rw [eG_184]; exact hm
        have g_185 : G_184 1000 = some (.inr (6, [.int 2, .long sd, .int (S 2), .ref (ad 1003), .ref (ad 1004), .ref (ad 1005), .ref (ad 1006), .ref (ad 1007), .ref (ad 1008), .ref (ad 1009), .ref (ad 1010), .ref (ad 1011), .ref (ad 1012), .ref (ad 1013), .ref (ad 1014), .ref (ad 1015), .ref (ad 1016), .int (S 17), .int (S 18), .int (S 19), .int (S 20), .ref (ad 1021), .ref (ad 1022), .ref (ad 1023), .ref (ad 1024), .ref (ad 1025), .int (S 26), .int (S 27)])) := by rw [eG_184, va_up_self]
        have g_186 := (congrFun eG_184 1003).trans ((va_up_ne _ _ (by decide)).trans ((congrFun hG 1003).trans gM_3))
        have g_187 := (congrFun eG_184 1004).trans ((va_up_ne _ _ (by decide)).trans ((congrFun hG 1004).trans gM_4))
        have g_188 := (congrFun eG_184 1005).trans ((va_up_ne _ _ (by decide)).trans ((congrFun hG 1005).trans gM_5))
        have g_189 := (congrFun eG_184 1006).trans ((va_up_ne _ _ (by decide)).trans ((congrFun hG 1006).trans gM_6))
        have g_190 := (congrFun eG_184 1007).trans ((va_up_ne _ _ (by decide)).trans ((congrFun hG 1007).trans gM_7))
        have g_191 := (congrFun eG_184 1008).trans ((va_up_ne _ _ (by decide)).trans ((congrFun hG 1008).trans gM_8))
        have g_192 := (congrFun eG_184 1009).trans ((va_up_ne _ _ (by decide)).trans ((congrFun hG 1009).trans gM_9))
        have g_193 := (congrFun eG_184 1010).trans ((va_up_ne _ _ (by decide)).trans ((congrFun hG 1010).trans gM_10))
        have g_194 := (congrFun eG_184 1011).trans ((va_up_ne _ _ (by decide)).trans ((congrFun hG 1011).trans gM_11))
        have g_195 := (congrFun eG_184 1012).trans ((va_up_ne _ _ (by decide)).trans ((congrFun hG 1012).trans gM_12))
        have g_196 := (congrFun eG_184 1013).trans ((va_up_ne _ _ (by decide)).trans ((congrFun hG 1013).trans gM_13))
        have g_197 := (congrFun eG_184 1014).trans ((va_up_ne _ _ (by decide)).trans ((congrFun hG 1014).trans gM_14))
        have g_198 := (congrFun eG_184 1015).trans ((va_up_ne _ _ (by decide)).trans ((congrFun hG 1015).trans gM_15))
        have g_199 := (congrFun eG_184 1016).trans ((va_up_ne _ _ (by decide)).trans ((congrFun hG 1016).trans gM_16))
        have g_200 := (congrFun eG_184 1021).trans ((va_up_ne _ _ (by decide)).trans ((congrFun hG 1021).trans gM_21))
        have g_201 := (congrFun eG_184 1022).trans ((va_up_ne _ _ (by decide)).trans ((congrFun hG 1022).trans gM_22))
        have g_202 := (congrFun eG_184 1023).trans ((va_up_ne _ _ (by decide)).trans ((congrFun hG 1023).trans gM_23))
        have g_203 := (congrFun eG_184 1024).trans ((va_up_ne _ _ (by decide)).trans ((congrFun hG 1024).trans gM_24))
        have g_204 := (congrFun eG_184 1025).trans ((va_up_ne _ _ (by decide)).trans ((congrFun hG 1025).trans gM_25))
        have hG : G_184 = gM dA ad A B (va_up S 0 2) sd G0 := by rw [eG_184, hG]; exact gM_uo (va_up S 0 2)
        refine lv_aload_n hx hb d_M_power_43 rfl (lv_at hl 0 rfl) ?_
        refine m_get (v := .int 2) (C := R_M) (T := T_M) (N := 28) hx hb hT in_M hown hC.1 hm 1000 rfl g_185 rfl 0 (by decide) (hT _ k_590) (fun _ h9 => h9) rfl d_M_power_44 ?_
        refine lv_if_le (tgt := 52) hx hb d_M_power_47 (by decide) (fun c9 => absurd c9 (by decide)) (fun _ => ?_)
        refine lv_iconst (v := 0) hx hb d_M_power_50 (by decide) ?_
        exact m_iret (v := 0) hx hb hr hm (Or.inr (Or.inl ⟨⟨t, ht2, ep, Or.inr (Or.inr (Int32.not_lt.mp c_32))⟩, by rw [hG]⟩)) d_M_power_51 hlocks
  · refine lv_iconst (v := 1) hx hb d_M_power_9 (by decide) ?_
    refine lv_goto (tgt := 40) hx hb d_M_power_10 (by decide) ?_
    refine m_put (v := .int 1) (ty := .int) (C := R_M) (T := T_M) (N := 28) hx hb hT in_M t_M tok_M nm_M hown hC.1 hm 1000 rfl ((congrFun hG 1000).trans gM_o) rfl 0 (by decide) (hT _ k_590) (fun _ h9 => h9) rfl (by decide +kernel) rfl rfl (Nat.le_of_ble_eq_true rfl) d_M_power_40 (fun H locs hm => ?_)
    obtain ⟨G_205, eG_205⟩ : ∃ z : mG, z = va_up G 1000 (some (.inr (6, [.int 1, .long sd, .int (S 2), .ref (ad 1003), .ref (ad 1004), .ref (ad 1005), .ref (ad 1006), .ref (ad 1007), .ref (ad 1008), .ref (ad 1009), .ref (ad 1010), .ref (ad 1011), .ref (ad 1012), .ref (ad 1013), .ref (ad 1014), .ref (ad 1015), .ref (ad 1016), .int (S 17), .int (S 18), .int (S 19), .int (S 20), .ref (ad 1021), .ref (ad 1022), .ref (ad 1023), .ref (ad 1024), .ref (ad 1025), .int (S 26), .int (S 27)]))) := ⟨_, rfl⟩
    have hm : mS D mCl (mA ad G s.heap.size) s.heap ad G_205 H locs := by rw [eG_205]; exact hm
    have g_206 : G_205 1000 = some (.inr (6, [.int 1, .long sd, .int (S 2), .ref (ad 1003), .ref (ad 1004), .ref (ad 1005), .ref (ad 1006), .ref (ad 1007), .ref (ad 1008), .ref (ad 1009), .ref (ad 1010), .ref (ad 1011), .ref (ad 1012), .ref (ad 1013), .ref (ad 1014), .ref (ad 1015), .ref (ad 1016), .int (S 17), .int (S 18), .int (S 19), .int (S 20), .ref (ad 1021), .ref (ad 1022), .ref (ad 1023), .ref (ad 1024), .ref (ad 1025), .int (S 26), .int (S 27)])) := by rw [eG_205, va_up_self]
    have g_207 := (congrFun eG_205 1003).trans ((va_up_ne _ _ (by decide)).trans ((congrFun hG 1003).trans gM_3))
    have g_208 := (congrFun eG_205 1004).trans ((va_up_ne _ _ (by decide)).trans ((congrFun hG 1004).trans gM_4))
    have g_209 := (congrFun eG_205 1005).trans ((va_up_ne _ _ (by decide)).trans ((congrFun hG 1005).trans gM_5))
    have g_210 := (congrFun eG_205 1006).trans ((va_up_ne _ _ (by decide)).trans ((congrFun hG 1006).trans gM_6))
    have g_211 := (congrFun eG_205 1007).trans ((va_up_ne _ _ (by decide)).trans ((congrFun hG 1007).trans gM_7))
    have g_212 := (congrFun eG_205 1008).trans ((va_up_ne _ _ (by decide)).trans ((congrFun hG 1008).trans gM_8))
    have g_213 := (congrFun eG_205 1009).trans ((va_up_ne _ _ (by decide)).trans ((congrFun hG 1009).trans gM_9))
    have g_214 := (congrFun eG_205 1010).trans ((va_up_ne _ _ (by decide)).trans ((congrFun hG 1010).trans gM_10))
    have g_215 := (congrFun eG_205 1011).trans ((va_up_ne _ _ (by decide)).trans ((congrFun hG 1011).trans gM_11))
    have g_216 := (congrFun eG_205 1012).trans ((va_up_ne _ _ (by decide)).trans ((congrFun hG 1012).trans gM_12))
    have g_217 := (congrFun eG_205 1013).trans ((va_up_ne _ _ (by decide)).trans ((congrFun hG 1013).trans gM_13))
    have g_218 := (congrFun eG_205 1014).trans ((va_up_ne _ _ (by decide)).trans ((congrFun hG 1014).trans gM_14))
    have g_219 := (congrFun eG_205 1015).trans ((va_up_ne _ _ (by decide)).trans ((congrFun hG 1015).trans gM_15))
    have g_220 := (congrFun eG_205 1016).trans ((va_up_ne _ _ (by decide)).trans ((congrFun hG 1016).trans gM_16))
    have g_221 := (congrFun eG_205 1021).trans ((va_up_ne _ _ (by decide)).trans ((congrFun hG 1021).trans gM_21))
    have g_222 := (congrFun eG_205 1022).trans ((va_up_ne _ _ (by decide)).trans ((congrFun hG 1022).trans gM_22))
    have g_223 := (congrFun eG_205 1023).trans ((va_up_ne _ _ (by decide)).trans ((congrFun hG 1023).trans gM_23))
    have g_224 := (congrFun eG_205 1024).trans ((va_up_ne _ _ (by decide)).trans ((congrFun hG 1024).trans gM_24))
    have g_225 := (congrFun eG_205 1025).trans ((va_up_ne _ _ (by decide)).trans ((congrFun hG 1025).trans gM_25))
    have hG : G_205 = gM dA ad A B (va_up S 0 1) sd G0 := by rw [eG_205, hG]; exact gM_uo (va_up S 0 1)
    refine lv_aload_n hx hb d_M_power_43 rfl (lv_at hl 0 rfl) ?_
    refine m_get (v := .int 1) (C := R_M) (T := T_M) (N := 28) hx hb hT in_M hown hC.1 hm 1000 rfl g_206 rfl 0 (by decide) (hT _ k_590) (fun _ h9 => h9) rfl d_M_power_44 ?_
    refine lv_if_le (tgt := 52) hx hb d_M_power_47 (by decide) (fun c9 => absurd c9 (by decide)) (fun _ => ?_)
    refine lv_iconst (v := 0) hx hb d_M_power_50 (by decide) ?_
    exact m_iret (v := 0) hx hb hr hm (Or.inl ⟨bv_ne w_2 c_6, by rw [hG]⟩) d_M_power_51 hlocks

set_option maxHeartbeats 4000000 in
set_option maxRecDepth 100000 in
theorem c_M_order (l : Launch) (D : va_G) (dA : Nat → ClassId) (ad : Nat → Nat) (G : mG) (sz : Nat) (A : Nat → Nat → Int32) (B : Nat → Nat → Int64) (S : Nat → Int32) (sd : Int64) (G0 : mG) (hG : G = gM dA ad A B S sd G0) (tc : Nat) (hS : S 2 = nI tc) (ht : tc ≤ 12) (on oc : Nat) (hS6 : S 26 = nI on) (hS7 : S 27 = nI oc) (hon : on ≤ oc) (hoc : oc ≤ 16) (p0 p1 : Int32) : Met l y_M_order (.code y_M_order b_M_order 3 (some .boolean) :: mBig) ({ frames := 1, cells := 0, slots := 0, locals := 25 }) (mPc [.ref (ad 1000), .int p0, .int p1] D mCl (mTys dA) mTx ad G sz) (mQi (fun (rv : Int32) (u : mU) => ((¬ (∃ i, i < tc ∧ p0 = nI i) ∧ u = (ad, gM dA ad A B (va_up S 0 1) sd G0)) ∨ ((∃ i, i < tc ∧ p0 = nI i) ∧ (p1 < 0 ∨ 10000 < p1) ∧ u = (ad, gM dA ad A B (va_up S 0 2) sd G0)) ∨ (∃ t, t < tc ∧ p0 = nI t ∧ ¬ (p1 < 0 ∨ 10000 < p1) ∧ ((oc = 16 ∧ rv = 0 ∧ u = (ad, gM dA ad A B (va_up S 0 0) sd G0)) ∨ (oc < 16 ∧ rv = 1 ∧ u = (ad, gM dA ad (va_up (va_up A 24 (upd (A 24) on p0)) 25 (upd (A 25) on p1)) B (va_up (va_up (va_up S 0 0) 26 (nI (on + 1))) 27 (nI (oc + 1))) sd G0)))))) D mCl ad G sz) 0 0 (mA ad G sz) := by
  refine Met.ofW (cc := b_M_order) (maxL := 3) (ret := (some .boolean)) (by decide) rfl ?_
  intro p e s m args below meth c s₁ BB hml hv
  obtain ⟨rfl, hsz, hw0, hC⟩ := hv
  have hx := BB.exec
  have hb := BB.bytes
  have hr := BB.returns
  have hts := atoms_spec (ws := .code y_M_order b_M_order 3 (some .boolean) :: mBig) BB.pre
  have hT : ∀ w ∈ mBig, w.before _ s = true := fun w h => hts w (List.mem_cons_of_mem _ h)
  have hown : s.vm.findClass "EdgeWearModel" = some m.cls := findClass_of_methodNamed BB.named
  have hlocks := BB.notSynchronized
  subst hsz
  have hm := mS.start hw0
  have hA : ∀ q : Nat, s.heap.size ≤ q → mA ad G s.heap.size q := fun q h => Or.inr h
  have hl := lv_entry ([.ref (ad 1000), .int p0, .int p1]) (n := 3) (Nat.le_of_ble_eq_true rfl)
  rw [lg_entry_eq]
  generalize (lg_sl ([.ref (ad 1000), .int p0, .int p1]) ++ List.replicate (3 - (lg_sl ([.ref (ad 1000), .int p0, .int p1])).length) Slot.unset).toArray = ls at hl ⊢
  have hl : lv_has ls 3 [(0, .ref (ad 1000)), (1, .int p0), (2, .int p1)] := hl
  refine lv_aload_n hx hb d_M_order_0 rfl (lv_at hl 0 rfl) ?_
  refine lv_aload_n hx hb d_M_order_1 rfl (lv_at hl 0 rfl) ?_
  refine lv_iload_n hx hb d_M_order_2 rfl (lv_at hl 1 rfl) ?_
  refine m_roi (m_runV (As := [.int p0]) (rest := [.ref (ad 1000)]) ⟨hx, hb, hml, hown, hts⟩ (c_M_noTool l D dA ad G s.heap.size A B S sd G0 hG tc hS ht p0) (cwV 1 hts (gV k_708 k_705 k_707 ks_7 k_4) rfl rfl rfl (by decide +kernel) ⟨Nat.le_of_ble_eq_true rfl, Nat.le_of_ble_eq_true rfl⟩) hm hA hC 1000 rfl ((congrFun hG 1000).trans gM_o) rfl rfl rfl hl.1 rfl (Nat.le_of_ble_eq_true rfl) d_M_order_3 ⟨Nat.le_of_ble_eq_true rfl, Nat.le_of_ble_eq_true rfl⟩) hm hA (fun r_1 H locs w_2 hm => ?_)
  refine lv_if_eq (tgt := 13) hx hb d_M_order_6 (by decide) (fun c_6 => ?_) (fun c_6 => ?_)
  · refine lv_iload_n hx hb d_M_order_13 rfl (lv_at hl 2 rfl) ?_
    refine lv_i2l hx hb d_M_order_14 rfl ?_
    refine lv_topl (fun x_3 ex_3 => ?_)
    refine lv_lconst (v := 0) hx hb d_M_order_15 (by decide) ?_
    refine lv_ldc2 (v := 10000) hx hb hown (hT _ k_801) d_M_order_16 ?_
    refine m_roi (m_runS (As := [.long x_3, .long 0, .long 10000]) (rest := [.ref (ad 1000)]) ⟨hx, hb, hml, hown, hts⟩ (c_M_isIn l D dA ad G H.size x_3 0 10000) (va_cwS 3 hts (gS k_690 k_688 k_689 k_4) rfl rfl rfl (by decide +kernel) ⟨Nat.le_of_ble_eq_true rfl, Nat.le_of_ble_eq_true rfl⟩) hm hA hC rfl hl.1 rfl (Nat.le_of_ble_eq_true rfl) d_M_order_19 ⟨Nat.le_of_ble_eq_true rfl, Nat.le_of_ble_eq_true rfl⟩) hm hA (fun r_4 H locs w_5 hm => ?_)
    refine lv_if_eq (tgt := 29) hx hb d_M_order_22 (by decide) (fun c_22 => ?_) (fun c_22 => ?_)
    · refine lv_iconst (v := 2) hx hb d_M_order_29 (by decide) ?_
      refine m_put (v := .int 2) (ty := .int) (C := R_M) (T := T_M) (N := 28) hx hb hT in_M t_M tok_M nm_M hown hC.1 hm 1000 rfl ((congrFun hG 1000).trans gM_o) rfl 0 (by decide) (hT _ k_590) (fun _ h9 => h9) rfl (by decide +kernel) rfl rfl (Nat.le_of_ble_eq_true rfl) d_M_order_30 (fun H locs hm => ?_)
      obtain ⟨G_6, eG_6⟩ : ∃ z : mG, z = va_up G 1000 (some (.inr (6, [.int 2, .long sd, .int (S 2), .ref (ad 1003), .ref (ad 1004), .ref (ad 1005), .ref (ad 1006), .ref (ad 1007), .ref (ad 1008), .ref (ad 1009), .ref (ad 1010), .ref (ad 1011), .ref (ad 1012), .ref (ad 1013), .ref (ad 1014), .ref (ad 1015), .ref (ad 1016), .int (S 17), .int (S 18), .int (S 19), .int (S 20), .ref (ad 1021), .ref (ad 1022), .ref (ad 1023), .ref (ad 1024), .ref (ad 1025), .int (S 26), .int (S 27)]))) := ⟨_, rfl⟩
      have hm : mS D mCl (mA ad G s.heap.size) s.heap ad G_6 H locs := by rw [eG_6]; exact hm
      have g_7 : G_6 1000 = some (.inr (6, [.int 2, .long sd, .int (S 2), .ref (ad 1003), .ref (ad 1004), .ref (ad 1005), .ref (ad 1006), .ref (ad 1007), .ref (ad 1008), .ref (ad 1009), .ref (ad 1010), .ref (ad 1011), .ref (ad 1012), .ref (ad 1013), .ref (ad 1014), .ref (ad 1015), .ref (ad 1016), .int (S 17), .int (S 18), .int (S 19), .int (S 20), .ref (ad 1021), .ref (ad 1022), .ref (ad 1023), .ref (ad 1024), .ref (ad 1025), .int (S 26), .int (S 27)])) := by rw [eG_6, va_up_self]
      have g_8 := (congrFun eG_6 1003).trans ((va_up_ne _ _ (by decide)).trans ((congrFun hG 1003).trans gM_3))
      have g_9 := (congrFun eG_6 1004).trans ((va_up_ne _ _ (by decide)).trans ((congrFun hG 1004).trans gM_4))
      have g_10 := (congrFun eG_6 1005).trans ((va_up_ne _ _ (by decide)).trans ((congrFun hG 1005).trans gM_5))
      have g_11 := (congrFun eG_6 1006).trans ((va_up_ne _ _ (by decide)).trans ((congrFun hG 1006).trans gM_6))
      have g_12 := (congrFun eG_6 1007).trans ((va_up_ne _ _ (by decide)).trans ((congrFun hG 1007).trans gM_7))
      have g_13 := (congrFun eG_6 1008).trans ((va_up_ne _ _ (by decide)).trans ((congrFun hG 1008).trans gM_8))
      have g_14 := (congrFun eG_6 1009).trans ((va_up_ne _ _ (by decide)).trans ((congrFun hG 1009).trans gM_9))
      have g_15 := (congrFun eG_6 1010).trans ((va_up_ne _ _ (by decide)).trans ((congrFun hG 1010).trans gM_10))
      have g_16 := (congrFun eG_6 1011).trans ((va_up_ne _ _ (by decide)).trans ((congrFun hG 1011).trans gM_11))
      have g_17 := (congrFun eG_6 1012).trans ((va_up_ne _ _ (by decide)).trans ((congrFun hG 1012).trans gM_12))
      have g_18 := (congrFun eG_6 1013).trans ((va_up_ne _ _ (by decide)).trans ((congrFun hG 1013).trans gM_13))
      have g_19 := (congrFun eG_6 1014).trans ((va_up_ne _ _ (by decide)).trans ((congrFun hG 1014).trans gM_14))
      have g_20 := (congrFun eG_6 1015).trans ((va_up_ne _ _ (by decide)).trans ((congrFun hG 1015).trans gM_15))
      have g_21 := (congrFun eG_6 1016).trans ((va_up_ne _ _ (by decide)).trans ((congrFun hG 1016).trans gM_16))
      have g_22 := (congrFun eG_6 1021).trans ((va_up_ne _ _ (by decide)).trans ((congrFun hG 1021).trans gM_21))
      have g_23 := (congrFun eG_6 1022).trans ((va_up_ne _ _ (by decide)).trans ((congrFun hG 1022).trans gM_22))
      have g_24 := (congrFun eG_6 1023).trans ((va_up_ne _ _ (by decide)).trans ((congrFun hG 1023).trans gM_23))
      have g_25 := (congrFun eG_6 1024).trans ((va_up_ne _ _ (by decide)).trans ((congrFun hG 1024).trans gM_24))
      have g_26 := (congrFun eG_6 1025).trans ((va_up_ne _ _ (by decide)).trans ((congrFun hG 1025).trans gM_25))
      have hG : G_6 = gM dA ad A B (va_up S 0 2) sd G0 := by rw [eG_6, hG]; exact gM_uo (va_up S 0 2)
      refine lv_aload_n hx hb d_M_order_33 rfl (lv_at hl 0 rfl) ?_
      refine m_get (v := .int 2) (C := R_M) (T := T_M) (N := 28) hx hb hT in_M hown hC.1 hm 1000 rfl g_7 rfl 0 (by decide) (hT _ k_590) (fun _ h9 => h9) rfl d_M_order_34 ?_
      refine lv_if_gt (tgt := 49) hx hb d_M_order_37 (by decide) (fun _ => ?_) (fun c9 => absurd (by decide) c9)
      refine lv_iconst (v := 0) hx hb d_M_order_49 (by decide) ?_
      exact m_zret (v := 0) hx hb hr rfl hm (Or.inr (Or.inl ⟨Classical.not_not.mp (bv_eq w_2 c_6), (Classical.not_not.mp (fun q => bv_eq w_5 c_22 (by rw [ex_3]; exact (inJ (p := p1) (lo := 0) (hi := 10000) (a := 0) (b := 10000) (by decide) (by decide)).mpr q))), by rw [hG]⟩)) d_M_order_50 hlocks
    · refine lv_iconst (v := 0) hx hb d_M_order_25 (by decide) ?_
      refine lv_goto (tgt := 30) hx hb d_M_order_26 (by decide) ?_
      refine m_put (v := .int 0) (ty := .int) (C := R_M) (T := T_M) (N := 28) hx hb hT in_M t_M tok_M nm_M hown hC.1 hm 1000 rfl ((congrFun hG 1000).trans gM_o) rfl 0 (by decide) (hT _ k_590) (fun _ h9 => h9) rfl (by decide +kernel) rfl rfl (Nat.le_of_ble_eq_true rfl) d_M_order_30 (fun H locs hm => ?_)
      obtain ⟨G_27, eG_27⟩ : ∃ z : mG, z = va_up G 1000 (some (.inr (6, [.int 0, .long sd, .int (S 2), .ref (ad 1003), .ref (ad 1004), .ref (ad 1005), .ref (ad 1006), .ref (ad 1007), .ref (ad 1008), .ref (ad 1009), .ref (ad 1010), .ref (ad 1011), .ref (ad 1012), .ref (ad 1013), .ref (ad 1014), .ref (ad 1015), .ref (ad 1016), .int (S 17), .int (S 18), .int (S 19), .int (S 20), .ref (ad 1021), .ref (ad 1022), .ref (ad 1023), .ref (ad 1024), .ref (ad 1025), .int (S 26), .int (S 27)]))) := ⟨_, rfl⟩
      have hm : mS D mCl (mA ad G s.heap.size) s.heap ad G_27 H locs := by rw [eG_27]; exact hm
      have g_28 : G_27 1000 = some (.inr (6, [.int 0, .long sd, .int (S 2), .ref (ad 1003), .ref (ad 1004), .ref (ad 1005), .ref (ad 1006), .ref (ad 1007), .ref (ad 1008), .ref (ad 1009), .ref (ad 1010), .ref (ad 1011), .ref (ad 1012), .ref (ad 1013), .ref (ad 1014), .ref (ad 1015), .ref (ad 1016), .int (S 17), .int (S 18), .int (S 19), .int (S 20), .ref (ad 1021), .ref (ad 1022), .ref (ad 1023), .ref (ad 1024), .ref (ad 1025), .int (S 26), .int (S 27)])) := by rw [eG_27, va_up_self]
      have g_29 := (congrFun eG_27 1003).trans ((va_up_ne _ _ (by decide)).trans ((congrFun hG 1003).trans gM_3))
      have g_30 := (congrFun eG_27 1004).trans ((va_up_ne _ _ (by decide)).trans ((congrFun hG 1004).trans gM_4))
      have g_31 := (congrFun eG_27 1005).trans ((va_up_ne _ _ (by decide)).trans ((congrFun hG 1005).trans gM_5))
      have g_32 := (congrFun eG_27 1006).trans ((va_up_ne _ _ (by decide)).trans ((congrFun hG 1006).trans gM_6))
      have g_33 := (congrFun eG_27 1007).trans ((va_up_ne _ _ (by decide)).trans ((congrFun hG 1007).trans gM_7))
      have g_34 := (congrFun eG_27 1008).trans ((va_up_ne _ _ (by decide)).trans ((congrFun hG 1008).trans gM_8))
      have g_35 := (congrFun eG_27 1009).trans ((va_up_ne _ _ (by decide)).trans ((congrFun hG 1009).trans gM_9))
      have g_36 := (congrFun eG_27 1010).trans ((va_up_ne _ _ (by decide)).trans ((congrFun hG 1010).trans gM_10))
      have g_37 := (congrFun eG_27 1011).trans ((va_up_ne _ _ (by decide)).trans ((congrFun hG 1011).trans gM_11))
      have g_38 := (congrFun eG_27 1012).trans ((va_up_ne _ _ (by decide)).trans ((congrFun hG 1012).trans gM_12))
      have g_39 := (congrFun eG_27 1013).trans ((va_up_ne _ _ (by decide)).trans ((congrFun hG 1013).trans gM_13))
      have g_40 := (congrFun eG_27 1014).trans ((va_up_ne _ _ (by decide)).trans ((congrFun hG 1014).trans gM_14))
      have g_41 := (congrFun eG_27 1015).trans ((va_up_ne _ _ (by decide)).trans ((congrFun hG 1015).trans gM_15))
      have g_42 := (congrFun eG_27 1016).trans ((va_up_ne _ _ (by decide)).trans ((congrFun hG 1016).trans gM_16))
      have g_43 := (congrFun eG_27 1021).trans ((va_up_ne _ _ (by decide)).trans ((congrFun hG 1021).trans gM_21))
      have g_44 := (congrFun eG_27 1022).trans ((va_up_ne _ _ (by decide)).trans ((congrFun hG 1022).trans gM_22))
      have g_45 := (congrFun eG_27 1023).trans ((va_up_ne _ _ (by decide)).trans ((congrFun hG 1023).trans gM_23))
      have g_46 := (congrFun eG_27 1024).trans ((va_up_ne _ _ (by decide)).trans ((congrFun hG 1024).trans gM_24))
      have g_47 := (congrFun eG_27 1025).trans ((va_up_ne _ _ (by decide)).trans ((congrFun hG 1025).trans gM_25))
      have hG : G_27 = gM dA ad A B (va_up S 0 0) sd G0 := by rw [eG_27, hG]; exact gM_uo (va_up S 0 0)
      refine lv_aload_n hx hb d_M_order_33 rfl (lv_at hl 0 rfl) ?_
      refine m_get (v := .int 0) (C := R_M) (T := T_M) (N := 28) hx hb hT in_M hown hC.1 hm 1000 rfl g_28 rfl 0 (by decide) (hT _ k_590) (fun _ h9 => h9) rfl d_M_order_34 ?_
      refine lv_if_gt (tgt := 49) hx hb d_M_order_37 (by decide) (fun c9 => absurd c9 (by decide)) (fun _ => ?_)
      obtain ⟨t, ht2, ep⟩ := Classical.not_not.mp (bv_eq w_2 c_6)
      refine lv_aload_n hx hb d_M_order_40 rfl (lv_at hl 0 rfl) ?_
      refine m_get (v := .int (S 27)) (C := R_M) (T := T_M) (N := 28) hx hb hT in_M hown hC.1 hm 1000 rfl g_28 rfl 27 (by decide) (hT _ k_617) (fun _ h9 => h9) rfl d_M_order_41 ?_
      refine lv_bipush (v := 16) hx hb d_M_order_44 (by decide) ?_
      refine lv_icmp_ne (tgt := 51) hx hb d_M_order_46 (by decide) (fun c_46 => ?_) (fun c_46 => ?_)
      · have hlt : oc < 16 := by
          have : ¬ oc = 16 := fun q => c_46 (by rw [hS7, q]; rfl)
          omega
        refine lv_aload_n hx hb d_M_order_51 rfl (lv_at hl 0 rfl) ?_
        refine m_get (v := .ref (ad 1024)) (C := R_M) (T := T_M) (N := 28) hx hb hT in_M hown hC.1 hm 1000 rfl g_28 rfl 24 (by decide) (hT _ k_614) (fun _ h9 => h9) rfl d_M_order_52 ?_
        refine lv_aload_n hx hb d_M_order_55 rfl (lv_at hl 0 rfl) ?_
        refine m_get (v := .int (S 26)) (C := R_M) (T := T_M) (N := 28) hx hb hT in_M hown hC.1 hm 1000 rfl g_28 rfl 26 (by decide) (hT _ k_616) (fun _ h9 => h9) rfl d_M_order_56 ?_
        refine lv_iload_n hx hb d_M_order_59 rfl (lv_at hl 1 rfl) ?_
        refine m_iast hx hb hC.1 hm 1024 rfl 0 g_46 rfl (by rw [hS6]; exact vp_in_nI (by omega) (by decide)) d_M_order_60 (fun H locs hm => ?_)
        rw [show (S 26).toNatClampNeg = on by rw [hS6, nI_clamp (by omega)]] at hm
        obtain ⟨G_48, eG_48⟩ : ∃ z : mG, z = va_up G_27 1024 (some (.inl ((dA 0), 16, .inl (upd (A 24) on p0)))) := ⟨_, rfl⟩
        have hm : mS D mCl (mA ad G s.heap.size) s.heap ad G_48 H locs := by rw [eG_48]; exact hm
        have g_49 := (congrFun eG_48 1000).trans ((va_up_ne _ _ (by decide)).trans g_28)
        have g_50 := (congrFun eG_48 1003).trans ((va_up_ne _ _ (by decide)).trans g_29)
        have g_51 := (congrFun eG_48 1004).trans ((va_up_ne _ _ (by decide)).trans g_30)
        have g_52 := (congrFun eG_48 1005).trans ((va_up_ne _ _ (by decide)).trans g_31)
        have g_53 := (congrFun eG_48 1006).trans ((va_up_ne _ _ (by decide)).trans g_32)
        have g_54 := (congrFun eG_48 1007).trans ((va_up_ne _ _ (by decide)).trans g_33)
        have g_55 := (congrFun eG_48 1008).trans ((va_up_ne _ _ (by decide)).trans g_34)
        have g_56 := (congrFun eG_48 1009).trans ((va_up_ne _ _ (by decide)).trans g_35)
        have g_57 := (congrFun eG_48 1010).trans ((va_up_ne _ _ (by decide)).trans g_36)
        have g_58 := (congrFun eG_48 1011).trans ((va_up_ne _ _ (by decide)).trans g_37)
        have g_59 := (congrFun eG_48 1012).trans ((va_up_ne _ _ (by decide)).trans g_38)
        have g_60 := (congrFun eG_48 1013).trans ((va_up_ne _ _ (by decide)).trans g_39)
        have g_61 := (congrFun eG_48 1014).trans ((va_up_ne _ _ (by decide)).trans g_40)
        have g_62 := (congrFun eG_48 1015).trans ((va_up_ne _ _ (by decide)).trans g_41)
        have g_63 := (congrFun eG_48 1016).trans ((va_up_ne _ _ (by decide)).trans g_42)
        have g_64 := (congrFun eG_48 1021).trans ((va_up_ne _ _ (by decide)).trans g_43)
        have g_65 := (congrFun eG_48 1022).trans ((va_up_ne _ _ (by decide)).trans g_44)
        have g_66 := (congrFun eG_48 1023).trans ((va_up_ne _ _ (by decide)).trans g_45)
        have g_67 : G_48 1024 = some (.inl ((dA 0), 16, .inl (upd (A 24) on p0))) := by rw [eG_48, va_up_self]
        have g_68 := (congrFun eG_48 1025).trans ((va_up_ne _ _ (by decide)).trans g_47)
        have hG : G_48 = gM dA ad (va_up A 24 (upd (A 24) on p0)) B (va_up S 0 0) sd G0 := by rw [eG_48, hG]; exact gM_u24 _
        refine lv_aload_n hx hb d_M_order_61 rfl (lv_at hl 0 rfl) ?_
        refine m_get (v := .ref (ad 1025)) (C := R_M) (T := T_M) (N := 28) hx hb hT in_M hown hC.1 hm 1000 rfl g_49 rfl 25 (by decide) (hT _ k_615) (fun _ h9 => h9) rfl d_M_order_62 ?_
        refine lv_aload_n hx hb d_M_order_65 rfl (lv_at hl 0 rfl) ?_
        refine m_get (v := .int (S 26)) (C := R_M) (T := T_M) (N := 28) hx hb hT in_M hown hC.1 hm 1000 rfl g_49 rfl 26 (by decide) (hT _ k_616) (fun _ h9 => h9) rfl d_M_order_66 ?_
        refine lv_iload_n hx hb d_M_order_69 rfl (lv_at hl 2 rfl) ?_
        refine m_iast hx hb hC.1 hm 1025 rfl 0 g_68 rfl (by rw [hS6]; exact vp_in_nI (by omega) (by decide)) d_M_order_70 (fun H locs hm => ?_)
        rw [show (S 26).toNatClampNeg = on by rw [hS6, nI_clamp (by omega)]] at hm
        obtain ⟨G_69, eG_69⟩ : ∃ z : mG, z = va_up G_48 1025 (some (.inl ((dA 0), 16, .inl (upd (A 25) on p1)))) := ⟨_, rfl⟩
        have hm : mS D mCl (mA ad G s.heap.size) s.heap ad G_69 H locs := by rw [eG_69]; exact hm
        have g_70 := (congrFun eG_69 1000).trans ((va_up_ne _ _ (by decide)).trans g_49)
        have g_71 := (congrFun eG_69 1003).trans ((va_up_ne _ _ (by decide)).trans g_50)
        have g_72 := (congrFun eG_69 1004).trans ((va_up_ne _ _ (by decide)).trans g_51)
        have g_73 := (congrFun eG_69 1005).trans ((va_up_ne _ _ (by decide)).trans g_52)
        have g_74 := (congrFun eG_69 1006).trans ((va_up_ne _ _ (by decide)).trans g_53)
        have g_75 := (congrFun eG_69 1007).trans ((va_up_ne _ _ (by decide)).trans g_54)
        have g_76 := (congrFun eG_69 1008).trans ((va_up_ne _ _ (by decide)).trans g_55)
        have g_77 := (congrFun eG_69 1009).trans ((va_up_ne _ _ (by decide)).trans g_56)
        have g_78 := (congrFun eG_69 1010).trans ((va_up_ne _ _ (by decide)).trans g_57)
        have g_79 := (congrFun eG_69 1011).trans ((va_up_ne _ _ (by decide)).trans g_58)
        have g_80 := (congrFun eG_69 1012).trans ((va_up_ne _ _ (by decide)).trans g_59)
        have g_81 := (congrFun eG_69 1013).trans ((va_up_ne _ _ (by decide)).trans g_60)
        have g_82 := (congrFun eG_69 1014).trans ((va_up_ne _ _ (by decide)).trans g_61)
        have g_83 := (congrFun eG_69 1015).trans ((va_up_ne _ _ (by decide)).trans g_62)
        have g_84 := (congrFun eG_69 1016).trans ((va_up_ne _ _ (by decide)).trans g_63)
        have g_85 := (congrFun eG_69 1021).trans ((va_up_ne _ _ (by decide)).trans g_64)
        have g_86 := (congrFun eG_69 1022).trans ((va_up_ne _ _ (by decide)).trans g_65)
        have g_87 := (congrFun eG_69 1023).trans ((va_up_ne _ _ (by decide)).trans g_66)
        have g_88 := (congrFun eG_69 1024).trans ((va_up_ne _ _ (by decide)).trans g_67)
        have g_89 : G_69 1025 = some (.inl ((dA 0), 16, .inl (upd (A 25) on p1))) := by rw [eG_69, va_up_self]
        have hG : G_69 = gM dA ad (va_up (va_up A 24 (upd (A 24) on p0)) 25 (upd (A 25) on p1)) B (va_up S 0 0) sd G0 := by rw [eG_69, hG]; exact gM_u25 _
        refine lv_aload_n hx hb d_M_order_71 rfl (lv_at hl 0 rfl) ?_
        refine lv_dup hx hb d_M_order_72 rfl ?_
        refine m_get (v := .int (S 26)) (C := R_M) (T := T_M) (N := 28) hx hb hT in_M hown hC.1 hm 1000 rfl g_70 rfl 26 (by decide) (hT _ k_616) (fun _ h9 => h9) rfl d_M_order_73 ?_
        refine lv_iconst (v := 1) hx hb d_M_order_76 (by decide) ?_
        refine lv_iadd hx hb d_M_order_77 ?_
        refine lv_topi (fun x_90 ex_90 => ?_)
        refine m_put (v := .int x_90) (ty := .int) (C := R_M) (T := T_M) (N := 28) hx hb hT in_M t_M tok_M nm_M hown hC.1 hm 1000 rfl g_70 rfl 26 (by decide) (hT _ k_616) (fun _ h9 => h9) rfl (by decide +kernel) rfl rfl (Nat.le_of_ble_eq_true rfl) d_M_order_78 (fun H locs hm => ?_)
        obtain ⟨G_91, eG_91⟩ : ∃ z : mG, z = va_up G_69 1000 (some (.inr (6, [.int 0, .long sd, .int (S 2), .ref (ad 1003), .ref (ad 1004), .ref (ad 1005), .ref (ad 1006), .ref (ad 1007), .ref (ad 1008), .ref (ad 1009), .ref (ad 1010), .ref (ad 1011), .ref (ad 1012), .ref (ad 1013), .ref (ad 1014), .ref (ad 1015), .ref (ad 1016), .int (S 17), .int (S 18), .int (S 19), .int (S 20), .ref (ad 1021), .ref (ad 1022), .ref (ad 1023), .ref (ad 1024), .ref (ad 1025), .int x_90, .int (S 27)]))) := ⟨_, rfl⟩
        have hm : mS D mCl (mA ad G s.heap.size) s.heap ad G_91 H locs := by rw [eG_91]; exact hm
        have g_92 : G_91 1000 = some (.inr (6, [.int 0, .long sd, .int (S 2), .ref (ad 1003), .ref (ad 1004), .ref (ad 1005), .ref (ad 1006), .ref (ad 1007), .ref (ad 1008), .ref (ad 1009), .ref (ad 1010), .ref (ad 1011), .ref (ad 1012), .ref (ad 1013), .ref (ad 1014), .ref (ad 1015), .ref (ad 1016), .int (S 17), .int (S 18), .int (S 19), .int (S 20), .ref (ad 1021), .ref (ad 1022), .ref (ad 1023), .ref (ad 1024), .ref (ad 1025), .int x_90, .int (S 27)])) := by rw [eG_91, va_up_self]
        have g_93 := (congrFun eG_91 1003).trans ((va_up_ne _ _ (by decide)).trans g_71)
        have g_94 := (congrFun eG_91 1004).trans ((va_up_ne _ _ (by decide)).trans g_72)
        have g_95 := (congrFun eG_91 1005).trans ((va_up_ne _ _ (by decide)).trans g_73)
        have g_96 := (congrFun eG_91 1006).trans ((va_up_ne _ _ (by decide)).trans g_74)
        have g_97 := (congrFun eG_91 1007).trans ((va_up_ne _ _ (by decide)).trans g_75)
        have g_98 := (congrFun eG_91 1008).trans ((va_up_ne _ _ (by decide)).trans g_76)
        have g_99 := (congrFun eG_91 1009).trans ((va_up_ne _ _ (by decide)).trans g_77)
        have g_100 := (congrFun eG_91 1010).trans ((va_up_ne _ _ (by decide)).trans g_78)
        have g_101 := (congrFun eG_91 1011).trans ((va_up_ne _ _ (by decide)).trans g_79)
        have g_102 := (congrFun eG_91 1012).trans ((va_up_ne _ _ (by decide)).trans g_80)
        have g_103 := (congrFun eG_91 1013).trans ((va_up_ne _ _ (by decide)).trans g_81)
        have g_104 := (congrFun eG_91 1014).trans ((va_up_ne _ _ (by decide)).trans g_82)
        have g_105 := (congrFun eG_91 1015).trans ((va_up_ne _ _ (by decide)).trans g_83)
        have g_106 := (congrFun eG_91 1016).trans ((va_up_ne _ _ (by decide)).trans g_84)
        have g_107 := (congrFun eG_91 1021).trans ((va_up_ne _ _ (by decide)).trans g_85)
        have g_108 := (congrFun eG_91 1022).trans ((va_up_ne _ _ (by decide)).trans g_86)
        have g_109 := (congrFun eG_91 1023).trans ((va_up_ne _ _ (by decide)).trans g_87)
        have g_110 := (congrFun eG_91 1024).trans ((va_up_ne _ _ (by decide)).trans g_88)
        have g_111 := (congrFun eG_91 1025).trans ((va_up_ne _ _ (by decide)).trans g_89)
        have hG : G_91 = gM dA ad (va_up (va_up A 24 (upd (A 24) on p0)) 25 (upd (A 25) on p1)) B (va_up (va_up S 0 0) 26 x_90) sd G0 := by rw [eG_91, hG]; exact gM_uo (va_up (va_up S 0 0) 26 x_90)
        refine lv_aload_n hx hb d_M_order_81 rfl (lv_at hl 0 rfl) ?_
        refine lv_dup hx hb d_M_order_82 rfl ?_
        refine m_get (v := .int (S 27)) (C := R_M) (T := T_M) (N := 28) hx hb hT in_M hown hC.1 hm 1000 rfl g_92 rfl 27 (by decide) (hT _ k_617) (fun _ h9 => h9) rfl d_M_order_83 ?_
        refine lv_iconst (v := 1) hx hb d_M_order_86 (by decide) ?_
        refine lv_iadd hx hb d_M_order_87 ?_
        refine lv_topi (fun x_112 ex_112 => ?_)
        refine m_put (v := .int x_112) (ty := .int) (C := R_M) (T := T_M) (N := 28) hx hb hT in_M t_M tok_M nm_M hown hC.1 hm 1000 rfl g_92 rfl 27 (by decide) (hT _ k_617) (fun _ h9 => h9) rfl (by decide +kernel) rfl rfl (Nat.le_of_ble_eq_true rfl) d_M_order_88 (fun H locs hm => ?_)
        obtain ⟨G_113, eG_113⟩ : ∃ z : mG, z = va_up G_91 1000 (some (.inr (6, [.int 0, .long sd, .int (S 2), .ref (ad 1003), .ref (ad 1004), .ref (ad 1005), .ref (ad 1006), .ref (ad 1007), .ref (ad 1008), .ref (ad 1009), .ref (ad 1010), .ref (ad 1011), .ref (ad 1012), .ref (ad 1013), .ref (ad 1014), .ref (ad 1015), .ref (ad 1016), .int (S 17), .int (S 18), .int (S 19), .int (S 20), .ref (ad 1021), .ref (ad 1022), .ref (ad 1023), .ref (ad 1024), .ref (ad 1025), .int x_90, .int x_112]))) := ⟨_, rfl⟩
        have hm : mS D mCl (mA ad G s.heap.size) s.heap ad G_113 H locs := by rw [eG_113]; exact hm
        have g_114 : G_113 1000 = some (.inr (6, [.int 0, .long sd, .int (S 2), .ref (ad 1003), .ref (ad 1004), .ref (ad 1005), .ref (ad 1006), .ref (ad 1007), .ref (ad 1008), .ref (ad 1009), .ref (ad 1010), .ref (ad 1011), .ref (ad 1012), .ref (ad 1013), .ref (ad 1014), .ref (ad 1015), .ref (ad 1016), .int (S 17), .int (S 18), .int (S 19), .int (S 20), .ref (ad 1021), .ref (ad 1022), .ref (ad 1023), .ref (ad 1024), .ref (ad 1025), .int x_90, .int x_112])) := by rw [eG_113, va_up_self]
        have g_115 := (congrFun eG_113 1003).trans ((va_up_ne _ _ (by decide)).trans g_93)
        have g_116 := (congrFun eG_113 1004).trans ((va_up_ne _ _ (by decide)).trans g_94)
        have g_117 := (congrFun eG_113 1005).trans ((va_up_ne _ _ (by decide)).trans g_95)
        have g_118 := (congrFun eG_113 1006).trans ((va_up_ne _ _ (by decide)).trans g_96)
        have g_119 := (congrFun eG_113 1007).trans ((va_up_ne _ _ (by decide)).trans g_97)
        have g_120 := (congrFun eG_113 1008).trans ((va_up_ne _ _ (by decide)).trans g_98)
        have g_121 := (congrFun eG_113 1009).trans ((va_up_ne _ _ (by decide)).trans g_99)
        have g_122 := (congrFun eG_113 1010).trans ((va_up_ne _ _ (by decide)).trans g_100)
        have g_123 := (congrFun eG_113 1011).trans ((va_up_ne _ _ (by decide)).trans g_101)
        have g_124 := (congrFun eG_113 1012).trans ((va_up_ne _ _ (by decide)).trans g_102)
        have g_125 := (congrFun eG_113 1013).trans ((va_up_ne _ _ (by decide)).trans g_103)
        have g_126 := (congrFun eG_113 1014).trans ((va_up_ne _ _ (by decide)).trans g_104)
        have g_127 := (congrFun eG_113 1015).trans ((va_up_ne _ _ (by decide)).trans g_105)
        have g_128 := (congrFun eG_113 1016).trans ((va_up_ne _ _ (by decide)).trans g_106)
        have g_129 := (congrFun eG_113 1021).trans ((va_up_ne _ _ (by decide)).trans g_107)
        have g_130 := (congrFun eG_113 1022).trans ((va_up_ne _ _ (by decide)).trans g_108)
        have g_131 := (congrFun eG_113 1023).trans ((va_up_ne _ _ (by decide)).trans g_109)
        have g_132 := (congrFun eG_113 1024).trans ((va_up_ne _ _ (by decide)).trans g_110)
        have g_133 := (congrFun eG_113 1025).trans ((va_up_ne _ _ (by decide)).trans g_111)
        have hG : G_113 = gM dA ad (va_up (va_up A 24 (upd (A 24) on p0)) 25 (upd (A 25) on p1)) B (va_up (va_up (va_up S 0 0) 26 x_90) 27 x_112) sd G0 := by rw [eG_113, hG]; exact gM_uo (va_up (va_up (va_up S 0 0) 26 x_90) 27 x_112)
        refine lv_iconst (v := 1) hx hb d_M_order_91 (by decide) ?_
        exact m_zret (v := 1) hx hb hr rfl hm (Or.inr (Or.inr (⟨t, ht2, ep, (inJ (p := p1) (lo := 0) (hi := 10000) (a := 0) (b := 10000) (by decide) (by decide)).mp (by have h9 := bv_ne w_5 c_22; rw [ex_3] at h9; exact h9), Or.inr ⟨hlt, rfl, by rw [hG, ex_112, ex_90, hS6, hS7, nI_1, nI_1]⟩⟩))) d_M_order_92 hlocks
      · refine lv_iconst (v := 0) hx hb d_M_order_49 (by decide) ?_
        exact m_zret (v := 0) hx hb hr rfl hm (Or.inr (Or.inr (⟨t, ht2, ep, (inJ (p := p1) (lo := 0) (hi := 10000) (a := 0) (b := 10000) (by decide) (by decide)).mp (by have h9 := bv_ne w_5 c_22; rw [ex_3] at h9; exact h9), Or.inl ⟨by
          have h9 := c_46
          rw [hS7] at h9
          exact (nI_eq (b := 16) (by omega) (by decide)).mp h9, rfl, by rw [hG]⟩⟩))) d_M_order_50 hlocks
  · refine lv_iconst (v := 1) hx hb d_M_order_9 (by decide) ?_
    refine lv_goto (tgt := 30) hx hb d_M_order_10 (by decide) ?_
    refine m_put (v := .int 1) (ty := .int) (C := R_M) (T := T_M) (N := 28) hx hb hT in_M t_M tok_M nm_M hown hC.1 hm 1000 rfl ((congrFun hG 1000).trans gM_o) rfl 0 (by decide) (hT _ k_590) (fun _ h9 => h9) rfl (by decide +kernel) rfl rfl (Nat.le_of_ble_eq_true rfl) d_M_order_30 (fun H locs hm => ?_)
    obtain ⟨G_134, eG_134⟩ : ∃ z : mG, z = va_up G 1000 (some (.inr (6, [.int 1, .long sd, .int (S 2), .ref (ad 1003), .ref (ad 1004), .ref (ad 1005), .ref (ad 1006), .ref (ad 1007), .ref (ad 1008), .ref (ad 1009), .ref (ad 1010), .ref (ad 1011), .ref (ad 1012), .ref (ad 1013), .ref (ad 1014), .ref (ad 1015), .ref (ad 1016), .int (S 17), .int (S 18), .int (S 19), .int (S 20), .ref (ad 1021), .ref (ad 1022), .ref (ad 1023), .ref (ad 1024), .ref (ad 1025), .int (S 26), .int (S 27)]))) := ⟨_, rfl⟩
    have hm : mS D mCl (mA ad G s.heap.size) s.heap ad G_134 H locs := by rw [eG_134]; exact hm
    have g_135 : G_134 1000 = some (.inr (6, [.int 1, .long sd, .int (S 2), .ref (ad 1003), .ref (ad 1004), .ref (ad 1005), .ref (ad 1006), .ref (ad 1007), .ref (ad 1008), .ref (ad 1009), .ref (ad 1010), .ref (ad 1011), .ref (ad 1012), .ref (ad 1013), .ref (ad 1014), .ref (ad 1015), .ref (ad 1016), .int (S 17), .int (S 18), .int (S 19), .int (S 20), .ref (ad 1021), .ref (ad 1022), .ref (ad 1023), .ref (ad 1024), .ref (ad 1025), .int (S 26), .int (S 27)])) := by rw [eG_134, va_up_self]
    have g_136 := (congrFun eG_134 1003).trans ((va_up_ne _ _ (by decide)).trans ((congrFun hG 1003).trans gM_3))
    have g_137 := (congrFun eG_134 1004).trans ((va_up_ne _ _ (by decide)).trans ((congrFun hG 1004).trans gM_4))
    have g_138 := (congrFun eG_134 1005).trans ((va_up_ne _ _ (by decide)).trans ((congrFun hG 1005).trans gM_5))
    have g_139 := (congrFun eG_134 1006).trans ((va_up_ne _ _ (by decide)).trans ((congrFun hG 1006).trans gM_6))
    have g_140 := (congrFun eG_134 1007).trans ((va_up_ne _ _ (by decide)).trans ((congrFun hG 1007).trans gM_7))
    have g_141 := (congrFun eG_134 1008).trans ((va_up_ne _ _ (by decide)).trans ((congrFun hG 1008).trans gM_8))
    have g_142 := (congrFun eG_134 1009).trans ((va_up_ne _ _ (by decide)).trans ((congrFun hG 1009).trans gM_9))
    have g_143 := (congrFun eG_134 1010).trans ((va_up_ne _ _ (by decide)).trans ((congrFun hG 1010).trans gM_10))
    have g_144 := (congrFun eG_134 1011).trans ((va_up_ne _ _ (by decide)).trans ((congrFun hG 1011).trans gM_11))
    have g_145 := (congrFun eG_134 1012).trans ((va_up_ne _ _ (by decide)).trans ((congrFun hG 1012).trans gM_12))
    have g_146 := (congrFun eG_134 1013).trans ((va_up_ne _ _ (by decide)).trans ((congrFun hG 1013).trans gM_13))
    have g_147 := (congrFun eG_134 1014).trans ((va_up_ne _ _ (by decide)).trans ((congrFun hG 1014).trans gM_14))
    have g_148 := (congrFun eG_134 1015).trans ((va_up_ne _ _ (by decide)).trans ((congrFun hG 1015).trans gM_15))
    have g_149 := (congrFun eG_134 1016).trans ((va_up_ne _ _ (by decide)).trans ((congrFun hG 1016).trans gM_16))
    have g_150 := (congrFun eG_134 1021).trans ((va_up_ne _ _ (by decide)).trans ((congrFun hG 1021).trans gM_21))
    have g_151 := (congrFun eG_134 1022).trans ((va_up_ne _ _ (by decide)).trans ((congrFun hG 1022).trans gM_22))
    have g_152 := (congrFun eG_134 1023).trans ((va_up_ne _ _ (by decide)).trans ((congrFun hG 1023).trans gM_23))
    have g_153 := (congrFun eG_134 1024).trans ((va_up_ne _ _ (by decide)).trans ((congrFun hG 1024).trans gM_24))
    have g_154 := (congrFun eG_134 1025).trans ((va_up_ne _ _ (by decide)).trans ((congrFun hG 1025).trans gM_25))
    have hG : G_134 = gM dA ad A B (va_up S 0 1) sd G0 := by rw [eG_134, hG]; exact gM_uo (va_up S 0 1)
    refine lv_aload_n hx hb d_M_order_33 rfl (lv_at hl 0 rfl) ?_
    refine m_get (v := .int 1) (C := R_M) (T := T_M) (N := 28) hx hb hT in_M hown hC.1 hm 1000 rfl g_135 rfl 0 (by decide) (hT _ k_590) (fun _ h9 => h9) rfl d_M_order_34 ?_
    refine lv_if_gt (tgt := 49) hx hb d_M_order_37 (by decide) (fun _ => ?_) (fun c9 => absurd (by decide) c9)
    refine lv_iconst (v := 0) hx hb d_M_order_49 (by decide) ?_
    exact m_zret (v := 0) hx hb hr rfl hm (Or.inl ⟨bv_ne w_2 c_6, by rw [hG]⟩) d_M_order_50 hlocks

set_option maxHeartbeats 4000000 in
set_option maxRecDepth 100000 in
theorem c_M_isDue (l : Launch) (D : va_G) (dA : Nat → ClassId) (ad : Nat → Nat) (G : mG) (sz : Nat) (A : Nat → Nat → Int32) (B : Nat → Nat → Int64) (S : Nat → Int32) (sd : Int64) (G0 : mG) (hG : G = gM dA ad A B S sd G0) (p0 p1 p2 : Int32) (o t : Nat) (ho : o < 16) (ep : p0 = nI o) (ht : t < 12) (et : A 24 o = nI t) : Met l y_M_isDue (.code y_M_isDue b_M_isDue 4 (some .boolean) :: mBig) ({ frames := 0, cells := 0, slots := 0, locals := 0 }) (mPc [.ref (ad 1000), .int p0, .int p1, .int p2] D mCl (mTys dA) mTx ad G sz) (mQi (fun (rv : Int32) (u : mU) => (bv rv (A 3 t = p1 ∧ A 25 o < p2)) ∧ u = (ad, G)) D mCl ad G sz) 0 0 (mA ad G sz) := by
  refine Met.ofW (cc := b_M_isDue) (maxL := 4) (ret := (some .boolean)) (by decide) rfl ?_
  intro p e s m args below meth c s₁ BB hml hv
  obtain ⟨rfl, hsz, hw0, hC⟩ := hv
  have hx := BB.exec
  have hb := BB.bytes
  have hr := BB.returns
  have hts := atoms_spec (ws := .code y_M_isDue b_M_isDue 4 (some .boolean) :: mBig) BB.pre
  have hT : ∀ w ∈ mBig, w.before _ s = true := fun w h => hts w (List.mem_cons_of_mem _ h)
  have hown : s.vm.findClass "EdgeWearModel" = some m.cls := findClass_of_methodNamed BB.named
  have hlocks := BB.notSynchronized
  subst hsz
  have hm := mS.start hw0
  have hA : ∀ q : Nat, s.heap.size ≤ q → mA ad G s.heap.size q := fun q h => Or.inr h
  have hl := lv_entry ([.ref (ad 1000), .int p0, .int p1, .int p2]) (n := 4) (Nat.le_of_ble_eq_true rfl)
  rw [lg_entry_eq]
  generalize (lg_sl ([.ref (ad 1000), .int p0, .int p1, .int p2]) ++ List.replicate (4 - (lg_sl ([.ref (ad 1000), .int p0, .int p1, .int p2])).length) Slot.unset).toArray = ls at hl ⊢
  have hl : lv_has ls 4 [(0, .ref (ad 1000)), (1, .int p0), (2, .int p1), (3, .int p2)] := hl
  refine lv_aload_n hx hb d_M_isDue_0 rfl (lv_at hl 0 rfl) ?_
  refine m_get (v := .ref (ad 1003)) (C := R_M) (T := T_M) (N := 28) hx hb hT in_M hown hC.1 hm 1000 rfl ((congrFun hG 1000).trans gM_o) rfl 3 (by decide) (hT _ k_593) (fun _ h9 => h9) rfl d_M_isDue_1 ?_
  refine lv_aload_n hx hb d_M_isDue_4 rfl (lv_at hl 0 rfl) ?_
  refine m_get (v := .ref (ad 1024)) (C := R_M) (T := T_M) (N := 28) hx hb hT in_M hown hC.1 hm 1000 rfl ((congrFun hG 1000).trans gM_o) rfl 24 (by decide) (hT _ k_614) (fun _ h9 => h9) rfl d_M_isDue_5 ?_
  refine lv_iload_n hx hb d_M_isDue_8 rfl (lv_at hl 1 rfl) ?_
  refine m_iald (v := A 24 o) hx hb hC.1 hm 1024 rfl 0 ((congrFun hG 1024).trans gM_24) rfl (by rw [ep]; exact vp_in_nI (by omega) (by decide)) (by rw [ep, nI_clamp (by omega)]) d_M_isDue_9 ?_
  refine m_iald (v := A 3 t) hx hb hC.1 hm 1003 rfl 0 ((congrFun hG 1003).trans gM_3) rfl (by rw [et]; exact vp_in_nI (by omega) (by decide)) (by rw [et, nI_clamp (by omega)]) d_M_isDue_10 ?_
  refine lv_iload_n hx hb d_M_isDue_11 rfl (lv_at hl 2 rfl) ?_
  refine lv_icmp_ne (tgt := 29) hx hb d_M_isDue_12 (by decide) (fun c_12 => ?_) (fun c_12 => ?_)
  · refine lv_iconst (v := 0) hx hb d_M_isDue_29 (by decide) ?_
    exact m_zret (v := 0) hx hb hr rfl hm (⟨bv0 (fun h => c_12 h.1), rfl⟩) d_M_isDue_30 hlocks
  · refine lv_aload_n hx hb d_M_isDue_15 rfl (lv_at hl 0 rfl) ?_
    refine m_get (v := .ref (ad 1025)) (C := R_M) (T := T_M) (N := 28) hx hb hT in_M hown hC.1 hm 1000 rfl ((congrFun hG 1000).trans gM_o) rfl 25 (by decide) (hT _ k_615) (fun _ h9 => h9) rfl d_M_isDue_16 ?_
    refine lv_iload_n hx hb d_M_isDue_19 rfl (lv_at hl 1 rfl) ?_
    refine m_iald (v := A 25 o) hx hb hC.1 hm 1025 rfl 0 ((congrFun hG 1025).trans gM_25) rfl (by rw [ep]; exact vp_in_nI (by omega) (by decide)) (by rw [ep, nI_clamp (by omega)]) d_M_isDue_20 ?_
    refine lv_iload_n hx hb d_M_isDue_21 rfl (lv_at hl 3 rfl) ?_
    refine lv_icmp_ge (tgt := 29) hx hb d_M_isDue_22 (by decide) (fun c_22 => ?_) (fun c_22 => ?_)
    · refine lv_iconst (v := 0) hx hb d_M_isDue_29 (by decide) ?_
      exact m_zret (v := 0) hx hb hr rfl hm (⟨bv0 (fun h => Int32.not_lt.mpr c_22 h.2), rfl⟩) d_M_isDue_30 hlocks
    · refine lv_iconst (v := 1) hx hb d_M_isDue_25 (by decide) ?_
      refine lv_goto (tgt := 30) hx hb d_M_isDue_26 (by decide) ?_
      exact m_zret (v := 1) hx hb hr rfl hm (⟨bv1 ⟨Classical.not_not.mp (fun q => q c_12), Int32.not_le.mp c_22⟩, rfl⟩) d_M_isDue_30 hlocks

set_option maxHeartbeats 4000000 in
set_option maxRecDepth 100000 in
theorem c_M_joined (l : Launch) (D : va_G) (dA : Nat → ClassId) (ad : Nat → Nat) (G : mG) (sz : Nat) (A : Nat → Nat → Int32) (B : Nat → Nat → Int64) (S : Nat → Int32) (sd : Int64) (G0 : mG) (hG : G = gM dA ad A B S sd G0) (on : Nat) (hS6 : S 26 = nI on) (hon : on ≤ 16) (to : Nat → Nat) (hto : ∀ o, o < on → to o < 12 ∧ A 24 o = nI (to o)) (p0 p1 : Int32) : Met l y_M_joined (.code y_M_joined b_M_joined 6 (some .int) :: mBig) ({ frames := 1, cells := 0, slots := 0, locals := 25 }) (mPc [.ref (ad 1000), .int p0, .int p1] D mCl (mTys dA) mTx ad G sz) (mQi (fun (rv : Int32) (u : mU) => ((¬ (∃ i, i < 4 ∧ p0 = nI i) ∧ u = (ad, gM dA ad A B (va_up S 0 1) sd G0)) ∨ ((∃ i, i < 4 ∧ p0 = nI i) ∧ (p1 < 0 ∨ 10000 < p1) ∧ u = (ad, gM dA ad A B (va_up S 0 2) sd G0)) ∨ ((∃ i, i < 4 ∧ p0 = nI i) ∧ ¬ (p1 < 0 ∨ 10000 < p1) ∧ ∃ d : Int32, bv d (∃ o, o < on ∧ mDu A to p0 (p1 + 2) o = true) ∧ rv = nI (on - eCnt (mKp A to d p0 (p1 + 7)) on) ∧ u = (ad, gM dA ad (va_up (va_up A 24 (mCp (A 24) (mKp A to d p0 (p1 + 7)) on)) 25 (mCp (A 25) (mKp A to d p0 (p1 + 7)) on)) B (va_up (va_up S 0 0) 26 (nI (eCnt (mKp A to d p0 (p1 + 7)) on))) sd G0)))) D mCl ad G sz) 0 0 (mA ad G sz) := by
  refine Met.ofW (cc := b_M_joined) (maxL := 6) (ret := (some .int)) (by decide) rfl ?_
  intro p e s m args below meth c s₁ BB hml hv
  obtain ⟨rfl, hsz, hw0, hC⟩ := hv
  have hx := BB.exec
  have hb := BB.bytes
  have hr := BB.returns
  have hts := atoms_spec (ws := .code y_M_joined b_M_joined 6 (some .int) :: mBig) BB.pre
  have hT : ∀ w ∈ mBig, w.before _ s = true := fun w h => hts w (List.mem_cons_of_mem _ h)
  have hown : s.vm.findClass "EdgeWearModel" = some m.cls := findClass_of_methodNamed BB.named
  have hlocks := BB.notSynchronized
  subst hsz
  have hm := mS.start hw0
  have hA : ∀ q : Nat, s.heap.size ≤ q → mA ad G s.heap.size q := fun q h => Or.inr h
  have hl := lv_entry ([.ref (ad 1000), .int p0, .int p1]) (n := 6) (Nat.le_of_ble_eq_true rfl)
  rw [lg_entry_eq]
  generalize (lg_sl ([.ref (ad 1000), .int p0, .int p1]) ++ List.replicate (6 - (lg_sl ([.ref (ad 1000), .int p0, .int p1])).length) Slot.unset).toArray = ls at hl ⊢
  have hl : lv_has ls 6 [(0, .ref (ad 1000)), (1, .int p0), (2, .int p1)] := hl
  refine lv_aload_n hx hb d_M_joined_0 rfl (lv_at hl 0 rfl) ?_
  refine lv_iload_n hx hb d_M_joined_1 rfl (lv_at hl 1 rfl) ?_
  refine m_roi (m_runS (As := [.int p0]) (rest := [.ref (ad 1000)]) ⟨hx, hb, hml, hown, hts⟩ (c_M_isFour l D dA ad G s.heap.size p0) (va_cwS 1 hts (gS k_687 k_685 k_686 k_4) rfl rfl rfl (by decide +kernel) ⟨Nat.le_of_ble_eq_true rfl, Nat.le_of_ble_eq_true rfl⟩) hm hA hC rfl hl.1 rfl (Nat.le_of_ble_eq_true rfl) d_M_joined_2 ⟨Nat.le_of_ble_eq_true rfl, Nat.le_of_ble_eq_true rfl⟩) hm hA (fun r_1 H locs w_2 hm => ?_)
  refine lv_if_ne (tgt := 12) hx hb d_M_joined_5 (by decide) (fun c_5 => ?_) (fun c_5 => ?_)
  · refine lv_iload_n hx hb d_M_joined_12 rfl (lv_at hl 2 rfl) ?_
    refine lv_i2l hx hb d_M_joined_13 rfl ?_
    refine lv_topl (fun x_3 ex_3 => ?_)
    refine lv_lconst (v := 0) hx hb d_M_joined_14 (by decide) ?_
    refine lv_ldc2 (v := 10000) hx hb hown (hT _ k_801) d_M_joined_15 ?_
    refine m_roi (m_runS (As := [.long x_3, .long 0, .long 10000]) (rest := [.ref (ad 1000)]) ⟨hx, hb, hml, hown, hts⟩ (c_M_isIn l D dA ad G H.size x_3 0 10000) (va_cwS 3 hts (gS k_690 k_688 k_689 k_4) rfl rfl rfl (by decide +kernel) ⟨Nat.le_of_ble_eq_true rfl, Nat.le_of_ble_eq_true rfl⟩) hm hA hC rfl hl.1 rfl (Nat.le_of_ble_eq_true rfl) d_M_joined_18 ⟨Nat.le_of_ble_eq_true rfl, Nat.le_of_ble_eq_true rfl⟩) hm hA (fun r_4 H locs w_5 hm => ?_)
    refine lv_if_eq (tgt := 28) hx hb d_M_joined_21 (by decide) (fun c_21 => ?_) (fun c_21 => ?_)
    · refine lv_iconst (v := 2) hx hb d_M_joined_28 (by decide) ?_
      refine m_put (v := .int 2) (ty := .int) (C := R_M) (T := T_M) (N := 28) hx hb hT in_M t_M tok_M nm_M hown hC.1 hm 1000 rfl ((congrFun hG 1000).trans gM_o) rfl 0 (by decide) (hT _ k_590) (fun _ h9 => h9) rfl (by decide +kernel) rfl rfl (Nat.le_of_ble_eq_true rfl) d_M_joined_29 (fun H locs hm => ?_)
      obtain ⟨G_6, eG_6⟩ : ∃ z : mG, z = va_up G 1000 (some (.inr (6, [.int 2, .long sd, .int (S 2), .ref (ad 1003), .ref (ad 1004), .ref (ad 1005), .ref (ad 1006), .ref (ad 1007), .ref (ad 1008), .ref (ad 1009), .ref (ad 1010), .ref (ad 1011), .ref (ad 1012), .ref (ad 1013), .ref (ad 1014), .ref (ad 1015), .ref (ad 1016), .int (S 17), .int (S 18), .int (S 19), .int (S 20), .ref (ad 1021), .ref (ad 1022), .ref (ad 1023), .ref (ad 1024), .ref (ad 1025), .int (S 26), .int (S 27)]))) := ⟨_, rfl⟩
      have hm : mS D mCl (mA ad G s.heap.size) s.heap ad G_6 H locs := by rw [eG_6]; exact hm
      have g_7 : G_6 1000 = some (.inr (6, [.int 2, .long sd, .int (S 2), .ref (ad 1003), .ref (ad 1004), .ref (ad 1005), .ref (ad 1006), .ref (ad 1007), .ref (ad 1008), .ref (ad 1009), .ref (ad 1010), .ref (ad 1011), .ref (ad 1012), .ref (ad 1013), .ref (ad 1014), .ref (ad 1015), .ref (ad 1016), .int (S 17), .int (S 18), .int (S 19), .int (S 20), .ref (ad 1021), .ref (ad 1022), .ref (ad 1023), .ref (ad 1024), .ref (ad 1025), .int (S 26), .int (S 27)])) := by rw [eG_6, va_up_self]
      have g_8 := (congrFun eG_6 1003).trans ((va_up_ne _ _ (by decide)).trans ((congrFun hG 1003).trans gM_3))
      have g_9 := (congrFun eG_6 1004).trans ((va_up_ne _ _ (by decide)).trans ((congrFun hG 1004).trans gM_4))
      have g_10 := (congrFun eG_6 1005).trans ((va_up_ne _ _ (by decide)).trans ((congrFun hG 1005).trans gM_5))
      have g_11 := (congrFun eG_6 1006).trans ((va_up_ne _ _ (by decide)).trans ((congrFun hG 1006).trans gM_6))
      have g_12 := (congrFun eG_6 1007).trans ((va_up_ne _ _ (by decide)).trans ((congrFun hG 1007).trans gM_7))
      have g_13 := (congrFun eG_6 1008).trans ((va_up_ne _ _ (by decide)).trans ((congrFun hG 1008).trans gM_8))
      have g_14 := (congrFun eG_6 1009).trans ((va_up_ne _ _ (by decide)).trans ((congrFun hG 1009).trans gM_9))
      have g_15 := (congrFun eG_6 1010).trans ((va_up_ne _ _ (by decide)).trans ((congrFun hG 1010).trans gM_10))
      have g_16 := (congrFun eG_6 1011).trans ((va_up_ne _ _ (by decide)).trans ((congrFun hG 1011).trans gM_11))
      have g_17 := (congrFun eG_6 1012).trans ((va_up_ne _ _ (by decide)).trans ((congrFun hG 1012).trans gM_12))
      have g_18 := (congrFun eG_6 1013).trans ((va_up_ne _ _ (by decide)).trans ((congrFun hG 1013).trans gM_13))
      have g_19 := (congrFun eG_6 1014).trans ((va_up_ne _ _ (by decide)).trans ((congrFun hG 1014).trans gM_14))
      have g_20 := (congrFun eG_6 1015).trans ((va_up_ne _ _ (by decide)).trans ((congrFun hG 1015).trans gM_15))
      have g_21 := (congrFun eG_6 1016).trans ((va_up_ne _ _ (by decide)).trans ((congrFun hG 1016).trans gM_16))
      have g_22 := (congrFun eG_6 1021).trans ((va_up_ne _ _ (by decide)).trans ((congrFun hG 1021).trans gM_21))
      have g_23 := (congrFun eG_6 1022).trans ((va_up_ne _ _ (by decide)).trans ((congrFun hG 1022).trans gM_22))
      have g_24 := (congrFun eG_6 1023).trans ((va_up_ne _ _ (by decide)).trans ((congrFun hG 1023).trans gM_23))
      have g_25 := (congrFun eG_6 1024).trans ((va_up_ne _ _ (by decide)).trans ((congrFun hG 1024).trans gM_24))
      have g_26 := (congrFun eG_6 1025).trans ((va_up_ne _ _ (by decide)).trans ((congrFun hG 1025).trans gM_25))
      have hG : G_6 = gM dA ad A B (va_up S 0 2) sd G0 := by rw [eG_6, hG]; exact gM_uo (va_up S 0 2)
      refine lv_aload_n hx hb d_M_joined_32 rfl (lv_at hl 0 rfl) ?_
      refine m_get (v := .int 2) (C := R_M) (T := T_M) (N := 28) hx hb hT in_M hown hC.1 hm 1000 rfl g_7 rfl 0 (by decide) (hT _ k_590) (fun _ h9 => h9) rfl d_M_joined_33 ?_
      refine lv_if_le (tgt := 41) hx hb d_M_joined_36 (by decide) (fun c9 => absurd c9 (by decide)) (fun _ => ?_)
      refine lv_iconst (v := 0) hx hb d_M_joined_39 (by decide) ?_
      exact m_iret (v := 0) hx hb hr hm (Or.inr (Or.inl ⟨bv_ne w_2 c_5, (Classical.not_not.mp (fun q => bv_eq w_5 c_21 (by rw [ex_3]; exact (inJ (p := p1) (lo := 0) (hi := 10000) (a := 0) (b := 10000) (by decide) (by decide)).mpr q))), by rw [hG]⟩)) d_M_joined_40 hlocks
    · refine lv_iconst (v := 0) hx hb d_M_joined_24 (by decide) ?_
      refine lv_goto (tgt := 29) hx hb d_M_joined_25 (by decide) ?_
      refine m_put (v := .int 0) (ty := .int) (C := R_M) (T := T_M) (N := 28) hx hb hT in_M t_M tok_M nm_M hown hC.1 hm 1000 rfl ((congrFun hG 1000).trans gM_o) rfl 0 (by decide) (hT _ k_590) (fun _ h9 => h9) rfl (by decide +kernel) rfl rfl (Nat.le_of_ble_eq_true rfl) d_M_joined_29 (fun H locs hm => ?_)
      obtain ⟨G_27, eG_27⟩ : ∃ z : mG, z = va_up G 1000 (some (.inr (6, [.int 0, .long sd, .int (S 2), .ref (ad 1003), .ref (ad 1004), .ref (ad 1005), .ref (ad 1006), .ref (ad 1007), .ref (ad 1008), .ref (ad 1009), .ref (ad 1010), .ref (ad 1011), .ref (ad 1012), .ref (ad 1013), .ref (ad 1014), .ref (ad 1015), .ref (ad 1016), .int (S 17), .int (S 18), .int (S 19), .int (S 20), .ref (ad 1021), .ref (ad 1022), .ref (ad 1023), .ref (ad 1024), .ref (ad 1025), .int (S 26), .int (S 27)]))) := ⟨_, rfl⟩
      have hm : mS D mCl (mA ad G s.heap.size) s.heap ad G_27 H locs := by rw [eG_27]; exact hm
      have g_28 : G_27 1000 = some (.inr (6, [.int 0, .long sd, .int (S 2), .ref (ad 1003), .ref (ad 1004), .ref (ad 1005), .ref (ad 1006), .ref (ad 1007), .ref (ad 1008), .ref (ad 1009), .ref (ad 1010), .ref (ad 1011), .ref (ad 1012), .ref (ad 1013), .ref (ad 1014), .ref (ad 1015), .ref (ad 1016), .int (S 17), .int (S 18), .int (S 19), .int (S 20), .ref (ad 1021), .ref (ad 1022), .ref (ad 1023), .ref (ad 1024), .ref (ad 1025), .int (S 26), .int (S 27)])) := by rw [eG_27, va_up_self]
      have g_29 := (congrFun eG_27 1003).trans ((va_up_ne _ _ (by decide)).trans ((congrFun hG 1003).trans gM_3))
      have g_30 := (congrFun eG_27 1004).trans ((va_up_ne _ _ (by decide)).trans ((congrFun hG 1004).trans gM_4))
      have g_31 := (congrFun eG_27 1005).trans ((va_up_ne _ _ (by decide)).trans ((congrFun hG 1005).trans gM_5))
      have g_32 := (congrFun eG_27 1006).trans ((va_up_ne _ _ (by decide)).trans ((congrFun hG 1006).trans gM_6))
      have g_33 := (congrFun eG_27 1007).trans ((va_up_ne _ _ (by decide)).trans ((congrFun hG 1007).trans gM_7))
      have g_34 := (congrFun eG_27 1008).trans ((va_up_ne _ _ (by decide)).trans ((congrFun hG 1008).trans gM_8))
      have g_35 := (congrFun eG_27 1009).trans ((va_up_ne _ _ (by decide)).trans ((congrFun hG 1009).trans gM_9))
      have g_36 := (congrFun eG_27 1010).trans ((va_up_ne _ _ (by decide)).trans ((congrFun hG 1010).trans gM_10))
      have g_37 := (congrFun eG_27 1011).trans ((va_up_ne _ _ (by decide)).trans ((congrFun hG 1011).trans gM_11))
      have g_38 := (congrFun eG_27 1012).trans ((va_up_ne _ _ (by decide)).trans ((congrFun hG 1012).trans gM_12))
      have g_39 := (congrFun eG_27 1013).trans ((va_up_ne _ _ (by decide)).trans ((congrFun hG 1013).trans gM_13))
      have g_40 := (congrFun eG_27 1014).trans ((va_up_ne _ _ (by decide)).trans ((congrFun hG 1014).trans gM_14))
      have g_41 := (congrFun eG_27 1015).trans ((va_up_ne _ _ (by decide)).trans ((congrFun hG 1015).trans gM_15))
      have g_42 := (congrFun eG_27 1016).trans ((va_up_ne _ _ (by decide)).trans ((congrFun hG 1016).trans gM_16))
      have g_43 := (congrFun eG_27 1021).trans ((va_up_ne _ _ (by decide)).trans ((congrFun hG 1021).trans gM_21))
      have g_44 := (congrFun eG_27 1022).trans ((va_up_ne _ _ (by decide)).trans ((congrFun hG 1022).trans gM_22))
      have g_45 := (congrFun eG_27 1023).trans ((va_up_ne _ _ (by decide)).trans ((congrFun hG 1023).trans gM_23))
      have g_46 := (congrFun eG_27 1024).trans ((va_up_ne _ _ (by decide)).trans ((congrFun hG 1024).trans gM_24))
      have g_47 := (congrFun eG_27 1025).trans ((va_up_ne _ _ (by decide)).trans ((congrFun hG 1025).trans gM_25))
      have hG : G_27 = gM dA ad A B (va_up S 0 0) sd G0 := by rw [eG_27, hG]; exact gM_uo (va_up S 0 0)
      refine lv_aload_n hx hb d_M_joined_32 rfl (lv_at hl 0 rfl) ?_
      refine m_get (v := .int 0) (C := R_M) (T := T_M) (N := 28) hx hb hT in_M hown hC.1 hm 1000 rfl g_28 rfl 0 (by decide) (hT _ k_590) (fun _ h9 => h9) rfl d_M_joined_33 ?_
      refine lv_if_le (tgt := 41) hx hb d_M_joined_36 (by decide) (fun _ => ?_) (fun c9 => absurd (by decide) c9)
      refine lv_iconst (v := 0) hx hb d_M_joined_41 (by decide) ?_
      refine lv_istore_n (lv' := [(3, .int 0), (0, .ref (ad 1000)), (1, .int p0), (2, .int p1)]) hx hb d_M_joined_42 rfl hl (by decide) rfl (fun ls hl => ?_)
      refine lv_iconst (v := 0) hx hb d_M_joined_43 (by decide) ?_
      refine lv_istore (lv' := [(4, .int 0), (3, .int 0), (0, .ref (ad 1000)), (1, .int p0), (2, .int p1)]) hx hb d_M_joined_44 hl (by decide) rfl (fun ls hl => ?_)
      refine m_loopH (nL := 6) (head := 46) (fun (q9 : Nat) => fun (x : Nat × Int32) => match x with | (k, d) => k + q9 = on + 1 ∧ k ≤ on ∧ bv d (∃ o, o < k ∧ mDu A to p0 (p1 + 2) o = true)) (fun (x : Nat × Int32) => match x with | (k, d) => [(0, .ref (ad 1000)), (1, .int p0), (2, .int p1), (3, .int d), (4, .int (nI k))]) (fun _ => G_27) (fun ⟨k, d⟩ h => by have h1 := h.1; have h2 := h.2.1; omega) (fun q9 x ls H locs hI hl hm ih46 => ?_) (on) (0, 0) (⟨by omega, by omega, bv0 (fun h => by
        obtain ⟨o, h1, h2⟩ := h
        exact Nat.not_lt_zero o h1)⟩) (lv_sub hl [2, 3, 4, 1, 0] rfl) hm
      obtain ⟨k, d⟩ := x
      replace hI : (fun (q9 : Nat) => k + q9 = on + 1 ∧ k ≤ on ∧ bv d (∃ o, o < k ∧ mDu A to p0 (p1 + 2) o = true)) (q9 + 1) := hI
      have hl : lv_has ls 6 [(0, .ref (ad 1000)), (1, .int p0), (2, .int p1), (3, .int d), (4, .int (nI k))] := hl
      have hI1 : bv d (∃ o, o < k ∧ mDu A to p0 (p1 + 2) o = true) := hI.2.2
      refine lv_iload hx hb d_M_joined_46 (lv_at hl 4 rfl) ?_
      refine lv_aload_n hx hb d_M_joined_48 rfl (lv_at hl 0 rfl) ?_
      refine m_get (v := .int (S 26)) (C := R_M) (T := T_M) (N := 28) hx hb hT in_M hown hC.1 hm 1000 rfl g_28 rfl 26 (by decide) (hT _ k_616) (fun _ h9 => h9) rfl d_M_joined_49 ?_
      refine lv_icmp_ge (tgt := 84) hx hb d_M_joined_52 (by decide) (fun c_52 => ?_) (fun c_52 => ?_)
      · have hge : k = on := by
          have h9 := c_52
          rw [hS6] at h9
          have := (nI_leI (by omega) (by omega)).mp h9
          omega
        have hdu : bv d (∃ o, o < on ∧ mDu A to p0 (p1 + 2) o = true) := by rw [← hge]; exact hI1
        refine lv_iconst (v := 0) hx hb d_M_joined_84 (by decide) ?_
        refine lv_istore (lv' := [(4, .int 0), (0, .ref (ad 1000)), (1, .int p0), (2, .int p1), (3, .int d)]) hx hb d_M_joined_85 hl (by decide) rfl (fun ls hl => ?_)
        refine lv_iconst (v := 0) hx hb d_M_joined_87 (by decide) ?_
        refine lv_istore (lv' := [(5, .int 0), (4, .int 0), (0, .ref (ad 1000)), (1, .int p0), (2, .int p1), (3, .int d)]) hx hb d_M_joined_88 hl (by decide) rfl (fun ls hl => ?_)
        have hm : mS D mCl (mA ad G s.heap.size) s.heap ad (gM dA ad (va_up (va_up A 24 (mCp (A 24) (mKp A to d p0 (p1 + 7)) 0)) 25 (mCp (A 25) (mKp A to d p0 (p1 + 7)) 0)) B (va_up S 0 0) sd G0) H locs := by
          rw [show va_up (va_up A 24 (mCp (A 24) (mKp A to d p0 (p1 + 7)) 0)) 25 (mCp (A 25) (mKp A to d p0 (p1 + 7)) 0) = A from (congrArg (fun z => va_up z 25 (A 25)) (va_id A 24)).trans (va_id A 25), ← hG]
          exact hm
        refine m_loopH (nL := 6) (head := 90) (fun (q9 : Nat) => fun (x : Nat) => match x with | k => k + q9 = on + 1 ∧ k ≤ on ∧ True) (fun (x : Nat) => match x with | k => [(0, .ref (ad 1000)), (1, .int p0), (2, .int p1), (3, .int d), (4, .int (nI (eCnt (mKp A to d p0 (p1 + 7)) k))), (5, .int (nI k))]) (fun (x : Nat) => match x with | k => gM dA ad (va_up (va_up A 24 (mCp (A 24) (mKp A to d p0 (p1 + 7)) k)) 25 (mCp (A 25) (mKp A to d p0 (p1 + 7)) k)) B (va_up S 0 0) sd G0) (fun k h => by have h1 := h.1; have h2 := h.2.1; omega) (fun q9 x ls H locs hI hl hm ih90 => ?_) (on) (0) (⟨by omega, by omega, trivial⟩) (lv_sub hl [2, 3, 4, 5, 1, 0] rfl) hm
        obtain ⟨k, ek⟩ : ∃ z, z = x := ⟨_, rfl⟩
        subst ek
        replace hI : (fun (q9 : Nat) => k + q9 = on + 1 ∧ k ≤ on ∧ True) (q9 + 1) := hI
        have hl : lv_has ls 6 [(0, .ref (ad 1000)), (1, .int p0), (2, .int p1), (3, .int d), (4, .int (nI (eCnt (mKp A to d p0 (p1 + 7)) k))), (5, .int (nI k))] := hl
        obtain ⟨Gj, hG⟩ : ∃ z : mG, z = gM dA ad (va_up (va_up A 24 (mCp (A 24) (mKp A to d p0 (p1 + 7)) k)) 25 (mCp (A 25) (mKp A to d p0 (p1 + 7)) k)) B (va_up S 0 0) sd G0 := ⟨_, rfl⟩
        replace hm : mS D mCl (mA ad G s.heap.size) s.heap ad Gj H locs := by rw [hG]; exact hm
        have g_48 : Gj 1000 = some (.inr (6, [.int 0, .long sd, .int (S 2), .ref (ad 1003), .ref (ad 1004), .ref (ad 1005), .ref (ad 1006), .ref (ad 1007), .ref (ad 1008), .ref (ad 1009), .ref (ad 1010), .ref (ad 1011), .ref (ad 1012), .ref (ad 1013), .ref (ad 1014), .ref (ad 1015), .ref (ad 1016), .int (S 17), .int (S 18), .int (S 19), .int (S 20), .ref (ad 1021), .ref (ad 1022), .ref (ad 1023), .ref (ad 1024), .ref (ad 1025), .int (S 26), .int (S 27)])) := (congrFun hG 1000).trans gM_o
        have g_49 : Gj 1003 = some (.inl ((dA 0), 12, .inl (A 3))) := (congrFun hG 1003).trans gM_3
        have g_50 : Gj 1004 = some (.inl ((dA 0), 12, .inl (A 4))) := (congrFun hG 1004).trans gM_4
        have g_51 : Gj 1005 = some (.inl ((dA 0), 12, .inl (A 5))) := (congrFun hG 1005).trans gM_5
        have g_52 : Gj 1006 = some (.inl ((dA 1), 12, .inr (.inl (B 6)))) := (congrFun hG 1006).trans gM_6
        have g_53 : Gj 1007 = some (.inl ((dA 2), 12, .inl (A 7))) := (congrFun hG 1007).trans gM_7
        have g_54 : Gj 1008 = some (.inl ((dA 2), 12, .inl (A 8))) := (congrFun hG 1008).trans gM_8
        have g_55 : Gj 1009 = some (.inl ((dA 0), 12, .inl (A 9))) := (congrFun hG 1009).trans gM_9
        have g_56 : Gj 1010 = some (.inl ((dA 0), 12, .inl (A 10))) := (congrFun hG 1010).trans gM_10
        have g_57 : Gj 1011 = some (.inl ((dA 1), 16, .inr (.inl (B 11)))) := (congrFun hG 1011).trans gM_11
        have g_58 : Gj 1012 = some (.inl ((dA 1), 4, .inr (.inl (B 12)))) := (congrFun hG 1012).trans gM_12
        have g_59 : Gj 1013 = some (.inl ((dA 0), 160, .inl (A 13))) := (congrFun hG 1013).trans gM_13
        have g_60 : Gj 1014 = some (.inl ((dA 0), 4, .inl (A 14))) := (congrFun hG 1014).trans gM_14
        have g_61 : Gj 1015 = some (.inl ((dA 1), 4, .inr (.inl (B 15)))) := (congrFun hG 1015).trans gM_15
        have g_62 : Gj 1016 = some (.inl ((dA 1), 4, .inr (.inl (B 16)))) := (congrFun hG 1016).trans gM_16
        have g_63 : Gj 1021 = some (.inl ((dA 0), 288, .inl (A 21))) := (congrFun hG 1021).trans gM_21
        have g_64 : Gj 1022 = some (.inl ((dA 0), 12, .inl (A 22))) := (congrFun hG 1022).trans gM_22
        have g_65 : Gj 1023 = some (.inl ((dA 0), 12, .inl (A 23))) := (congrFun hG 1023).trans gM_23
        have g_66 : Gj 1024 = some (.inl ((dA 0), 16, .inl (mCp (A 24) (mKp A to d p0 (p1 + 7)) k))) := (congrFun hG 1024).trans gM_24
        have g_67 : Gj 1025 = some (.inl ((dA 0), 16, .inl (mCp (A 25) (mKp A to d p0 (p1 + 7)) k))) := (congrFun hG 1025).trans gM_25
        refine lv_iload hx hb d_M_joined_90 (lv_at hl 5 rfl) ?_
        refine lv_aload_n hx hb d_M_joined_92 rfl (lv_at hl 0 rfl) ?_
        refine m_get (v := .int (S 26)) (C := R_M) (T := T_M) (N := 28) hx hb hT in_M hown hC.1 hm 1000 rfl g_48 rfl 26 (by decide) (hT _ k_616) (fun _ h9 => h9) rfl d_M_joined_93 ?_
        refine lv_icmp_ge (tgt := 154) hx hb d_M_joined_96 (by decide) (fun c_96 => ?_) (fun c_96 => ?_)
        · have hge : k = on := by
            have h9 := c_96
            rw [hS6] at h9
            have := (nI_leI (by omega) (by omega)).mp h9
            omega
          subst hge
          have hcl := eCnt_le (mKp A to d p0 (p1 + 7)) k
          refine lv_aload_n hx hb d_M_joined_154 rfl (lv_at hl 0 rfl) ?_
          refine m_get (v := .int (S 26)) (C := R_M) (T := T_M) (N := 28) hx hb hT in_M hown hC.1 hm 1000 rfl g_48 rfl 26 (by decide) (hT _ k_616) (fun _ h9 => h9) rfl d_M_joined_155 ?_
          refine lv_iload hx hb d_M_joined_158 (lv_at hl 4 rfl) ?_
          refine lv_isub hx hb d_M_joined_160 ?_
          refine lv_topi (fun x_68 ex_68 => ?_)
          refine lv_istore (lv' := [(5, .int x_68), (0, .ref (ad 1000)), (1, .int p0), (2, .int p1), (3, .int d), (4, .int (nI (eCnt (mKp A to d p0 (p1 + 7)) k)))]) hx hb d_M_joined_161 hl (by decide) rfl (fun ls hl => ?_)
          refine lv_aload_n hx hb d_M_joined_163 rfl (lv_at hl 1 rfl) ?_
          refine lv_iload hx hb d_M_joined_164 (lv_at hl 5 rfl) ?_
          refine m_put (v := .int (nI (eCnt (mKp A to d p0 (p1 + 7)) k))) (ty := .int) (C := R_M) (T := T_M) (N := 28) hx hb hT in_M t_M tok_M nm_M hown hC.1 hm 1000 rfl g_48 rfl 26 (by decide) (hT _ k_616) (fun _ h9 => h9) rfl (by decide +kernel) rfl rfl (Nat.le_of_ble_eq_true rfl) d_M_joined_166 (fun H locs hm => ?_)
          obtain ⟨G_69, eG_69⟩ : ∃ z : mG, z = va_up Gj 1000 (some (.inr (6, [.int 0, .long sd, .int (S 2), .ref (ad 1003), .ref (ad 1004), .ref (ad 1005), .ref (ad 1006), .ref (ad 1007), .ref (ad 1008), .ref (ad 1009), .ref (ad 1010), .ref (ad 1011), .ref (ad 1012), .ref (ad 1013), .ref (ad 1014), .ref (ad 1015), .ref (ad 1016), .int (S 17), .int (S 18), .int (S 19), .int (S 20), .ref (ad 1021), .ref (ad 1022), .ref (ad 1023), .ref (ad 1024), .ref (ad 1025), .int (nI (eCnt (mKp A to d p0 (p1 + 7)) k)), .int (S 27)]))) := ⟨_, rfl⟩
          have hm : mS D mCl (mA ad G s.heap.size) s.heap ad G_69 H locs := by rw [eG_69]; exact hm
          have g_70 : G_69 1000 = some (.inr (6, [.int 0, .long sd, .int (S 2), .ref (ad 1003), .ref (ad 1004), .ref (ad 1005), .ref (ad 1006), .ref (ad 1007), .ref (ad 1008), .ref (ad 1009), .ref (ad 1010), .ref (ad 1011), .ref (ad 1012), .ref (ad 1013), .ref (ad 1014), .ref (ad 1015), .ref (ad 1016), .int (S 17), .int (S 18), .int (S 19), .int (S 20), .ref (ad 1021), .ref (ad 1022), .ref (ad 1023), .ref (ad 1024), .ref (ad 1025), .int (nI (eCnt (mKp A to d p0 (p1 + 7)) k)), .int (S 27)])) := by rw [eG_69, va_up_self]
          have g_71 := (congrFun eG_69 1003).trans ((va_up_ne _ _ (by decide)).trans g_49)
          have g_72 := (congrFun eG_69 1004).trans ((va_up_ne _ _ (by decide)).trans g_50)
          have g_73 := (congrFun eG_69 1005).trans ((va_up_ne _ _ (by decide)).trans g_51)
          have g_74 := (congrFun eG_69 1006).trans ((va_up_ne _ _ (by decide)).trans g_52)
          have g_75 := (congrFun eG_69 1007).trans ((va_up_ne _ _ (by decide)).trans g_53)
          have g_76 := (congrFun eG_69 1008).trans ((va_up_ne _ _ (by decide)).trans g_54)
          have g_77 := (congrFun eG_69 1009).trans ((va_up_ne _ _ (by decide)).trans g_55)
          have g_78 := (congrFun eG_69 1010).trans ((va_up_ne _ _ (by decide)).trans g_56)
          have g_79 := (congrFun eG_69 1011).trans ((va_up_ne _ _ (by decide)).trans g_57)
          have g_80 := (congrFun eG_69 1012).trans ((va_up_ne _ _ (by decide)).trans g_58)
          have g_81 := (congrFun eG_69 1013).trans ((va_up_ne _ _ (by decide)).trans g_59)
          have g_82 := (congrFun eG_69 1014).trans ((va_up_ne _ _ (by decide)).trans g_60)
          have g_83 := (congrFun eG_69 1015).trans ((va_up_ne _ _ (by decide)).trans g_61)
          have g_84 := (congrFun eG_69 1016).trans ((va_up_ne _ _ (by decide)).trans g_62)
          have g_85 := (congrFun eG_69 1021).trans ((va_up_ne _ _ (by decide)).trans g_63)
          have g_86 := (congrFun eG_69 1022).trans ((va_up_ne _ _ (by decide)).trans g_64)
          have g_87 := (congrFun eG_69 1023).trans ((va_up_ne _ _ (by decide)).trans g_65)
          have g_88 := (congrFun eG_69 1024).trans ((va_up_ne _ _ (by decide)).trans g_66)
          have g_89 := (congrFun eG_69 1025).trans ((va_up_ne _ _ (by decide)).trans g_67)
          have hG : G_69 = gM dA ad (va_up (va_up A 24 (mCp (A 24) (mKp A to d p0 (p1 + 7)) k)) 25 (mCp (A 25) (mKp A to d p0 (p1 + 7)) k)) B (va_up (va_up S 0 0) 26 (nI (eCnt (mKp A to d p0 (p1 + 7)) k))) sd G0 := by rw [eG_69, hG]; exact gM_uo (va_up (va_up S 0 0) 26 (nI (eCnt (mKp A to d p0 (p1 + 7)) k)))
          refine lv_iload hx hb d_M_joined_169 (lv_at hl 0 rfl) ?_
          exact m_iret (v := x_68) hx hb hr hm (Or.inr (Or.inr (⟨bv_ne w_2 c_5, (inJ (p := p1) (lo := 0) (hi := 10000) (a := 0) (b := 10000) (by decide) (by decide)).mp (by have h9 := bv_ne w_5 c_21; rw [ex_3] at h9; exact h9), d, hdu, by rw [ex_68, hS6, pk_sub hcl], by rw [hG]⟩))) d_M_joined_171 hlocks
        · have hkn : k < on := by
            have h9 := Int32.not_le.mp c_96
            rw [hS6] at h9
            exact (nI_ltI (by omega) (by omega)).mp h9
          refine lv_iload_n hx hb d_M_joined_99 rfl (lv_at hl 3 rfl) ?_
          refine lv_if_eq (tgt := 117) hx hb d_M_joined_100 (by decide) (fun c_100 => ?_) (fun c_100 => ?_)
          · have hP : mKp A to d p0 (p1 + 7) k = true := decide_eq_true (fun h => h.1 c_100)
            refine lv_aload_n hx hb d_M_joined_117 rfl (lv_at hl 0 rfl) ?_
            refine m_get (v := .ref (ad 1024)) (C := R_M) (T := T_M) (N := 28) hx hb hT in_M hown hC.1 hm 1000 rfl g_48 rfl 24 (by decide) (hT _ k_614) (fun _ h9 => h9) rfl d_M_joined_118 ?_
            refine lv_iload hx hb d_M_joined_121 (lv_at hl 4 rfl) ?_
            refine lv_aload_n hx hb d_M_joined_123 rfl (lv_at hl 0 rfl) ?_
            refine m_get (v := .ref (ad 1024)) (C := R_M) (T := T_M) (N := 28) hx hb hT in_M hown hC.1 hm 1000 rfl g_48 rfl 24 (by decide) (hT _ k_614) (fun _ h9 => h9) rfl d_M_joined_124 ?_
            refine lv_iload hx hb d_M_joined_127 (lv_at hl 5 rfl) ?_
            refine m_iald (v := A 24 k) hx hb hC.1 hm 1024 rfl 0 g_66 rfl (vp_in_nI (by omega) (by decide)) (by rw [nI_clamp (by omega), mCp_at (Nat.le_refl k)]) d_M_joined_129 ?_
            have hcl := eCnt_le (mKp A to d p0 (p1 + 7)) k
            refine m_iast hx hb hC.1 hm 1024 rfl 0 g_66 rfl (vp_in_nI (by omega) (by decide)) d_M_joined_130 (fun H locs hm => ?_)
            rw [show (nI (eCnt (mKp A to d p0 (p1 + 7)) k)).toNatClampNeg = eCnt (mKp A to d p0 (p1 + 7)) k by rw [nI_clamp (by omega)]] at hm
            obtain ⟨G_90, eG_90⟩ : ∃ z : mG, z = va_up Gj 1024 (some (.inl ((dA 0), 16, .inl (upd (mCp (A 24) (mKp A to d p0 (p1 + 7)) k) (eCnt (mKp A to d p0 (p1 + 7)) k) (A 24 k))))) := ⟨_, rfl⟩
            have hm : mS D mCl (mA ad G s.heap.size) s.heap ad G_90 H locs := by rw [eG_90]; exact hm
            have g_91 := (congrFun eG_90 1000).trans ((va_up_ne _ _ (by decide)).trans g_48)
            have g_92 := (congrFun eG_90 1003).trans ((va_up_ne _ _ (by decide)).trans g_49)
            have g_93 := (congrFun eG_90 1004).trans ((va_up_ne _ _ (by decide)).trans g_50)
            have g_94 := (congrFun eG_90 1005).trans ((va_up_ne _ _ (by decide)).trans g_51)
            have g_95 := (congrFun eG_90 1006).trans ((va_up_ne _ _ (by decide)).trans g_52)
            have g_96 := (congrFun eG_90 1007).trans ((va_up_ne _ _ (by decide)).trans g_53)
            have g_97 := (congrFun eG_90 1008).trans ((va_up_ne _ _ (by decide)).trans g_54)
            have g_98 := (congrFun eG_90 1009).trans ((va_up_ne _ _ (by decide)).trans g_55)
            have g_99 := (congrFun eG_90 1010).trans ((va_up_ne _ _ (by decide)).trans g_56)
            have g_100 := (congrFun eG_90 1011).trans ((va_up_ne _ _ (by decide)).trans g_57)
            have g_101 := (congrFun eG_90 1012).trans ((va_up_ne _ _ (by decide)).trans g_58)
            have g_102 := (congrFun eG_90 1013).trans ((va_up_ne _ _ (by decide)).trans g_59)
            have g_103 := (congrFun eG_90 1014).trans ((va_up_ne _ _ (by decide)).trans g_60)
            have g_104 := (congrFun eG_90 1015).trans ((va_up_ne _ _ (by decide)).trans g_61)
            have g_105 := (congrFun eG_90 1016).trans ((va_up_ne _ _ (by decide)).trans g_62)
            have g_106 := (congrFun eG_90 1021).trans ((va_up_ne _ _ (by decide)).trans g_63)
            have g_107 := (congrFun eG_90 1022).trans ((va_up_ne _ _ (by decide)).trans g_64)
            have g_108 := (congrFun eG_90 1023).trans ((va_up_ne _ _ (by decide)).trans g_65)
            have g_109 : G_90 1024 = some (.inl ((dA 0), 16, .inl (upd (mCp (A 24) (mKp A to d p0 (p1 + 7)) k) (eCnt (mKp A to d p0 (p1 + 7)) k) (A 24 k)))) := by rw [eG_90, va_up_self]
            have g_110 := (congrFun eG_90 1025).trans ((va_up_ne _ _ (by decide)).trans g_67)
            have hG : G_90 = gM dA ad (va_up (va_up (va_up A 24 (mCp (A 24) (mKp A to d p0 (p1 + 7)) k)) 25 (mCp (A 25) (mKp A to d p0 (p1 + 7)) k)) 24 (upd (mCp (A 24) (mKp A to d p0 (p1 + 7)) k) (eCnt (mKp A to d p0 (p1 + 7)) k) (A 24 k))) B (va_up S 0 0) sd G0 := by rw [eG_90, hG]; exact gM_u24 _
            refine lv_aload_n hx hb d_M_joined_131 rfl (lv_at hl 0 rfl) ?_
            refine m_get (v := .ref (ad 1025)) (C := R_M) (T := T_M) (N := 28) hx hb hT in_M hown hC.1 hm 1000 rfl g_91 rfl 25 (by decide) (hT _ k_615) (fun _ h9 => h9) rfl d_M_joined_132 ?_
            refine lv_iload hx hb d_M_joined_135 (lv_at hl 4 rfl) ?_
            refine lv_aload_n hx hb d_M_joined_137 rfl (lv_at hl 0 rfl) ?_
            refine m_get (v := .ref (ad 1025)) (C := R_M) (T := T_M) (N := 28) hx hb hT in_M hown hC.1 hm 1000 rfl g_91 rfl 25 (by decide) (hT _ k_615) (fun _ h9 => h9) rfl d_M_joined_138 ?_
            refine lv_iload hx hb d_M_joined_141 (lv_at hl 5 rfl) ?_
            refine m_iald (v := A 25 k) hx hb hC.1 hm 1025 rfl 0 g_110 rfl (vp_in_nI (by omega) (by decide)) (by rw [nI_clamp (by omega), mCp_at (Nat.le_refl k)]) d_M_joined_143 ?_
            have hcl := eCnt_le (mKp A to d p0 (p1 + 7)) k
            refine m_iast hx hb hC.1 hm 1025 rfl 0 g_110 rfl (vp_in_nI (by omega) (by decide)) d_M_joined_144 (fun H locs hm => ?_)
            rw [show (nI (eCnt (mKp A to d p0 (p1 + 7)) k)).toNatClampNeg = eCnt (mKp A to d p0 (p1 + 7)) k by rw [nI_clamp (by omega)]] at hm
            obtain ⟨G_111, eG_111⟩ : ∃ z : mG, z = va_up G_90 1025 (some (.inl ((dA 0), 16, .inl (upd (mCp (A 25) (mKp A to d p0 (p1 + 7)) k) (eCnt (mKp A to d p0 (p1 + 7)) k) (A 25 k))))) := ⟨_, rfl⟩
            have hm : mS D mCl (mA ad G s.heap.size) s.heap ad G_111 H locs := by rw [eG_111]; exact hm
            have g_112 := (congrFun eG_111 1000).trans ((va_up_ne _ _ (by decide)).trans g_91)
            have g_113 := (congrFun eG_111 1003).trans ((va_up_ne _ _ (by decide)).trans g_92)
            have g_114 := (congrFun eG_111 1004).trans ((va_up_ne _ _ (by decide)).trans g_93)
            have g_115 := (congrFun eG_111 1005).trans ((va_up_ne _ _ (by decide)).trans g_94)
            have g_116 := (congrFun eG_111 1006).trans ((va_up_ne _ _ (by decide)).trans g_95)
            have g_117 := (congrFun eG_111 1007).trans ((va_up_ne _ _ (by decide)).trans g_96)
            have g_118 := (congrFun eG_111 1008).trans ((va_up_ne _ _ (by decide)).trans g_97)
            have g_119 := (congrFun eG_111 1009).trans ((va_up_ne _ _ (by decide)).trans g_98)
            have g_120 := (congrFun eG_111 1010).trans ((va_up_ne _ _ (by decide)).trans g_99)
            have g_121 := (congrFun eG_111 1011).trans ((va_up_ne _ _ (by decide)).trans g_100)
            have g_122 := (congrFun eG_111 1012).trans ((va_up_ne _ _ (by decide)).trans g_101)
            have g_123 := (congrFun eG_111 1013).trans ((va_up_ne _ _ (by decide)).trans g_102)
            have g_124 := (congrFun eG_111 1014).trans ((va_up_ne _ _ (by decide)).trans g_103)
            have g_125 := (congrFun eG_111 1015).trans ((va_up_ne _ _ (by decide)).trans g_104)
            have g_126 := (congrFun eG_111 1016).trans ((va_up_ne _ _ (by decide)).trans g_105)
            have g_127 := (congrFun eG_111 1021).trans ((va_up_ne _ _ (by decide)).trans g_106)
            have g_128 := (congrFun eG_111 1022).trans ((va_up_ne _ _ (by decide)).trans g_107)
            have g_129 := (congrFun eG_111 1023).trans ((va_up_ne _ _ (by decide)).trans g_108)
            have g_130 := (congrFun eG_111 1024).trans ((va_up_ne _ _ (by decide)).trans g_109)
            have g_131 : G_111 1025 = some (.inl ((dA 0), 16, .inl (upd (mCp (A 25) (mKp A to d p0 (p1 + 7)) k) (eCnt (mKp A to d p0 (p1 + 7)) k) (A 25 k)))) := by rw [eG_111, va_up_self]
            have hG : G_111 = gM dA ad (va_up (va_up (va_up (va_up A 24 (mCp (A 24) (mKp A to d p0 (p1 + 7)) k)) 25 (mCp (A 25) (mKp A to d p0 (p1 + 7)) k)) 24 (upd (mCp (A 24) (mKp A to d p0 (p1 + 7)) k) (eCnt (mKp A to d p0 (p1 + 7)) k) (A 24 k))) 25 (upd (mCp (A 25) (mKp A to d p0 (p1 + 7)) k) (eCnt (mKp A to d p0 (p1 + 7)) k) (A 25 k))) B (va_up S 0 0) sd G0 := by rw [eG_111, hG]; exact gM_u25 _
            refine lv_iinc (v := nI ((eCnt (mKp A to d p0 (p1 + 7)) k) + 1)) (lv' := [(4, .int (nI ((eCnt (mKp A to d p0 (p1 + 7)) k) + 1))), (0, .ref (ad 1000)), (1, .int p0), (2, .int p1), (3, .int d), (5, .int (nI k))]) hx hb d_M_joined_145 hl (k := 4) rfl (nI_1 _) (by decide) rfl (fun ls hl => ?_)
            rw [← eCnt_pos hP] at hl
            refine lv_iinc (v := nI (k + 1)) (lv' := [(5, .int (nI (k + 1))), (4, .int (nI (eCnt (mKp A to d p0 (p1 + 7)) (k + 1)))), (0, .ref (ad 1000)), (1, .int p0), (2, .int p1), (3, .int d)]) hx hb d_M_joined_148 hl (k := 5) rfl (nI_1 _) (by decide) rfl (fun ls hl => ?_)
            refine lv_goto (tgt := 90) hx hb d_M_joined_151 (by decide) ?_
            rw [hG] at hm
            have hm : mS D mCl (mA ad G s.heap.size) s.heap ad (gM dA ad (va_up (va_up A 24 (mCp (A 24) (mKp A to d p0 (p1 + 7)) (k + 1))) 25 (mCp (A 25) (mKp A to d p0 (p1 + 7)) (k + 1))) B (va_up S 0 0) sd G0) H locs := by
              rw [mCp_pos hP, mCp_pos hP]
              have h9 : va_up (va_up (va_up (va_up A 24 (mCp (A 24) (mKp A to d p0 (p1 + 7)) k)) 25 (mCp (A 25) (mKp A to d p0 (p1 + 7)) k)) 24 (upd (mCp (A 24) (mKp A to d p0 (p1 + 7)) k) (eCnt (mKp A to d p0 (p1 + 7)) k) (A 24 k))) 25 (upd (mCp (A 25) (mKp A to d p0 (p1 + 7)) k) (eCnt (mKp A to d p0 (p1 + 7)) k) (A 25 k)) = va_up (va_up A 24 (upd (mCp (A 24) (mKp A to d p0 (p1 + 7)) k) (eCnt (mKp A to d p0 (p1 + 7)) k) (A 24 k))) 25 (upd (mCp (A 25) (mKp A to d p0 (p1 + 7)) k) (eCnt (mKp A to d p0 (p1 + 7)) k) (A 25 k)) := by
                rw [upc (k := 25) (j := 24) _ _ _ (by decide), bx_uu, bx_uu]
              rw [← h9]
              exact hm
            exact ih90 (k + 1) ls H locs (⟨by omega, by omega, trivial⟩) (lv_sub hl [2, 3, 4, 5, 1, 0] rfl) hm
          · refine lv_aload_n hx hb d_M_joined_103 rfl (lv_at hl 0 rfl) ?_
            refine lv_iload hx hb d_M_joined_104 (lv_at hl 5 rfl) ?_
            refine lv_iload_n hx hb d_M_joined_106 rfl (lv_at hl 1 rfl) ?_
            refine lv_iload_n hx hb d_M_joined_107 rfl (lv_at hl 2 rfl) ?_
            refine lv_bipush (v := 7) hx hb d_M_joined_108 (by decide) ?_
            refine lv_iadd hx hb d_M_joined_110 ?_
            refine lv_topi (fun x_132 ex_132 => ?_)
            refine m_roi (m_runV (As := [.int (nI k), .int p0, .int x_132]) (rest := []) ⟨hx, hb, hml, hown, hts⟩ (c_M_isDue l D dA ad Gj H.size (va_up (va_up A 24 (mCp (A 24) (mKp A to d p0 (p1 + 7)) k)) 25 (mCp (A 25) (mKp A to d p0 (p1 + 7)) k)) B (va_up S 0 0) sd G0 hG (nI k) p0 x_132 k (to k) (by omega) rfl (hto k hkn).1 (show mCp (A 24) (mKp A to d p0 (p1 + 7)) k k = _ by rw [mCp_at (Nat.le_refl k)]; exact (hto k hkn).2)) (cwV 3 hts (gV k_809 k_806 k_808 ks_15 k_4) rfl rfl rfl (by decide +kernel) ⟨Nat.le_of_ble_eq_true rfl, Nat.le_of_ble_eq_true rfl⟩) hm hA hC 1000 rfl g_48 rfl rfl rfl hl.1 rfl (Nat.le_of_ble_eq_true rfl) d_M_joined_111 ⟨Nat.le_of_ble_eq_true rfl, Nat.le_of_ble_eq_true rfl⟩) hm hA (fun r_133 H locs w_134 hm => ?_)
            refine lv_if_ne (tgt := 148) hx hb d_M_joined_114 (by decide) (fun c_114 => ?_) (fun c_114 => ?_)
            · have hP : ¬ mKp A to d p0 (p1 + 7) k = true := fun h => of_decide_eq_true h ⟨c_100, by
                have h9 := bv_ne w_134 c_114
                rw [ex_132, va_up_self, mCp_at (Nat.le_refl k)] at h9
                exact h9⟩
              rw [← eCnt_neg hP] at hl
              refine lv_iinc (v := nI (k + 1)) (lv' := [(5, .int (nI (k + 1))), (0, .ref (ad 1000)), (1, .int p0), (2, .int p1), (3, .int d), (4, .int (nI (eCnt (mKp A to d p0 (p1 + 7)) (k + 1))))]) hx hb d_M_joined_148 hl (k := 5) rfl (nI_1 _) (by decide) rfl (fun ls hl => ?_)
              refine lv_goto (tgt := 90) hx hb d_M_joined_151 (by decide) ?_
              rw [hG] at hm
              have hm : mS D mCl (mA ad G s.heap.size) s.heap ad (gM dA ad (va_up (va_up A 24 (mCp (A 24) (mKp A to d p0 (p1 + 7)) (k + 1))) 25 (mCp (A 25) (mKp A to d p0 (p1 + 7)) (k + 1))) B (va_up S 0 0) sd G0) H locs := by
                rw [mCp_neg hP, mCp_neg hP]
                exact hm
              exact ih90 (k + 1) ls H locs (⟨by omega, by omega, trivial⟩) (lv_sub hl [1, 2, 3, 4, 5, 0] rfl) hm
            · have hP : mKp A to d p0 (p1 + 7) k = true := decide_eq_true (fun h => bv_eq w_134 c_114 (by rw [ex_132]; exact ⟨h.2.1, by rw [va_up_self, mCp_at (Nat.le_refl k)]; exact h.2.2⟩))
              refine lv_aload_n hx hb d_M_joined_117 rfl (lv_at hl 0 rfl) ?_
              refine m_get (v := .ref (ad 1024)) (C := R_M) (T := T_M) (N := 28) hx hb hT in_M hown hC.1 hm 1000 rfl g_48 rfl 24 (by decide) (hT _ k_614) (fun _ h9 => h9) rfl d_M_joined_118 ?_
              refine lv_iload hx hb d_M_joined_121 (lv_at hl 4 rfl) ?_
              refine lv_aload_n hx hb d_M_joined_123 rfl (lv_at hl 0 rfl) ?_
              refine m_get (v := .ref (ad 1024)) (C := R_M) (T := T_M) (N := 28) hx hb hT in_M hown hC.1 hm 1000 rfl g_48 rfl 24 (by decide) (hT _ k_614) (fun _ h9 => h9) rfl d_M_joined_124 ?_
              refine lv_iload hx hb d_M_joined_127 (lv_at hl 5 rfl) ?_
              refine m_iald (v := A 24 k) hx hb hC.1 hm 1024 rfl 0 g_66 rfl (vp_in_nI (by omega) (by decide)) (by rw [nI_clamp (by omega), mCp_at (Nat.le_refl k)]) d_M_joined_129 ?_
              have hcl := eCnt_le (mKp A to d p0 (p1 + 7)) k
              refine m_iast hx hb hC.1 hm 1024 rfl 0 g_66 rfl (vp_in_nI (by omega) (by decide)) d_M_joined_130 (fun H locs hm => ?_)
              rw [show (nI (eCnt (mKp A to d p0 (p1 + 7)) k)).toNatClampNeg = eCnt (mKp A to d p0 (p1 + 7)) k by rw [nI_clamp (by omega)]] at hm
              obtain ⟨G_135, eG_135⟩ : ∃ z : mG, z = va_up Gj 1024 (some (.inl ((dA 0), 16, .inl (upd (mCp (A 24) (mKp A to d p0 (p1 + 7)) k) (eCnt (mKp A to d p0 (p1 + 7)) k) (A 24 k))))) := ⟨_, rfl⟩
              have hm : mS D mCl (mA ad G s.heap.size) s.heap ad G_135 H locs := by rw [eG_135]; exact hm
              have g_136 := (congrFun eG_135 1000).trans ((va_up_ne _ _ (by decide)).trans g_48)
              have g_137 := (congrFun eG_135 1003).trans ((va_up_ne _ _ (by decide)).trans g_49)
              have g_138 := (congrFun eG_135 1004).trans ((va_up_ne _ _ (by decide)).trans g_50)
              have g_139 := (congrFun eG_135 1005).trans ((va_up_ne _ _ (by decide)).trans g_51)
              have g_140 := (congrFun eG_135 1006).trans ((va_up_ne _ _ (by decide)).trans g_52)
              have g_141 := (congrFun eG_135 1007).trans ((va_up_ne _ _ (by decide)).trans g_53)
              have g_142 := (congrFun eG_135 1008).trans ((va_up_ne _ _ (by decide)).trans g_54)
              have g_143 := (congrFun eG_135 1009).trans ((va_up_ne _ _ (by decide)).trans g_55)
              have g_144 := (congrFun eG_135 1010).trans ((va_up_ne _ _ (by decide)).trans g_56)
              have g_145 := (congrFun eG_135 1011).trans ((va_up_ne _ _ (by decide)).trans g_57)
              have g_146 := (congrFun eG_135 1012).trans ((va_up_ne _ _ (by decide)).trans g_58)
              have g_147 := (congrFun eG_135 1013).trans ((va_up_ne _ _ (by decide)).trans g_59)
              have g_148 := (congrFun eG_135 1014).trans ((va_up_ne _ _ (by decide)).trans g_60)
              have g_149 := (congrFun eG_135 1015).trans ((va_up_ne _ _ (by decide)).trans g_61)
              have g_150 := (congrFun eG_135 1016).trans ((va_up_ne _ _ (by decide)).trans g_62)
              have g_151 := (congrFun eG_135 1021).trans ((va_up_ne _ _ (by decide)).trans g_63)
              have g_152 := (congrFun eG_135 1022).trans ((va_up_ne _ _ (by decide)).trans g_64)
              have g_153 := (congrFun eG_135 1023).trans ((va_up_ne _ _ (by decide)).trans g_65)
              have g_154 : G_135 1024 = some (.inl ((dA 0), 16, .inl (upd (mCp (A 24) (mKp A to d p0 (p1 + 7)) k) (eCnt (mKp A to d p0 (p1 + 7)) k) (A 24 k)))) := by rw [eG_135, va_up_self]
              have g_155 := (congrFun eG_135 1025).trans ((va_up_ne _ _ (by decide)).trans g_67)
              have hG : G_135 = gM dA ad (va_up (va_up (va_up A 24 (mCp (A 24) (mKp A to d p0 (p1 + 7)) k)) 25 (mCp (A 25) (mKp A to d p0 (p1 + 7)) k)) 24 (upd (mCp (A 24) (mKp A to d p0 (p1 + 7)) k) (eCnt (mKp A to d p0 (p1 + 7)) k) (A 24 k))) B (va_up S 0 0) sd G0 := by rw [eG_135, hG]; exact gM_u24 _
              refine lv_aload_n hx hb d_M_joined_131 rfl (lv_at hl 0 rfl) ?_
              refine m_get (v := .ref (ad 1025)) (C := R_M) (T := T_M) (N := 28) hx hb hT in_M hown hC.1 hm 1000 rfl g_136 rfl 25 (by decide) (hT _ k_615) (fun _ h9 => h9) rfl d_M_joined_132 ?_
              refine lv_iload hx hb d_M_joined_135 (lv_at hl 4 rfl) ?_
              refine lv_aload_n hx hb d_M_joined_137 rfl (lv_at hl 0 rfl) ?_
              refine m_get (v := .ref (ad 1025)) (C := R_M) (T := T_M) (N := 28) hx hb hT in_M hown hC.1 hm 1000 rfl g_136 rfl 25 (by decide) (hT _ k_615) (fun _ h9 => h9) rfl d_M_joined_138 ?_
              refine lv_iload hx hb d_M_joined_141 (lv_at hl 5 rfl) ?_
              refine m_iald (v := A 25 k) hx hb hC.1 hm 1025 rfl 0 g_155 rfl (vp_in_nI (by omega) (by decide)) (by rw [nI_clamp (by omega), mCp_at (Nat.le_refl k)]) d_M_joined_143 ?_
              have hcl := eCnt_le (mKp A to d p0 (p1 + 7)) k
              refine m_iast hx hb hC.1 hm 1025 rfl 0 g_155 rfl (vp_in_nI (by omega) (by decide)) d_M_joined_144 (fun H locs hm => ?_)
              rw [show (nI (eCnt (mKp A to d p0 (p1 + 7)) k)).toNatClampNeg = eCnt (mKp A to d p0 (p1 + 7)) k by rw [nI_clamp (by omega)]] at hm
              obtain ⟨G_156, eG_156⟩ : ∃ z : mG, z = va_up G_135 1025 (some (.inl ((dA 0), 16, .inl (upd (mCp (A 25) (mKp A to d p0 (p1 + 7)) k) (eCnt (mKp A to d p0 (p1 + 7)) k) (A 25 k))))) := ⟨_, rfl⟩
              have hm : mS D mCl (mA ad G s.heap.size) s.heap ad G_156 H locs := by rw [eG_156]; exact hm
              have g_157 := (congrFun eG_156 1000).trans ((va_up_ne _ _ (by decide)).trans g_136)
              have g_158 := (congrFun eG_156 1003).trans ((va_up_ne _ _ (by decide)).trans g_137)
              have g_159 := (congrFun eG_156 1004).trans ((va_up_ne _ _ (by decide)).trans g_138)
              have g_160 := (congrFun eG_156 1005).trans ((va_up_ne _ _ (by decide)).trans g_139)
              have g_161 := (congrFun eG_156 1006).trans ((va_up_ne _ _ (by decide)).trans g_140)
              have g_162 := (congrFun eG_156 1007).trans ((va_up_ne _ _ (by decide)).trans g_141)
              have g_163 := (congrFun eG_156 1008).trans ((va_up_ne _ _ (by decide)).trans g_142)
              have g_164 := (congrFun eG_156 1009).trans ((va_up_ne _ _ (by decide)).trans g_143)
              have g_165 := (congrFun eG_156 1010).trans ((va_up_ne _ _ (by decide)).trans g_144)
              have g_166 := (congrFun eG_156 1011).trans ((va_up_ne _ _ (by decide)).trans g_145)
              have g_167 := (congrFun eG_156 1012).trans ((va_up_ne _ _ (by decide)).trans g_146)
              have g_168 := (congrFun eG_156 1013).trans ((va_up_ne _ _ (by decide)).trans g_147)
              have g_169 := (congrFun eG_156 1014).trans ((va_up_ne _ _ (by decide)).trans g_148)
              have g_170 := (congrFun eG_156 1015).trans ((va_up_ne _ _ (by decide)).trans g_149)
              have g_171 := (congrFun eG_156 1016).trans ((va_up_ne _ _ (by decide)).trans g_150)
              have g_172 := (congrFun eG_156 1021).trans ((va_up_ne _ _ (by decide)).trans g_151)
              have g_173 := (congrFun eG_156 1022).trans ((va_up_ne _ _ (by decide)).trans g_152)
              have g_174 := (congrFun eG_156 1023).trans ((va_up_ne _ _ (by decide)).trans g_153)
              have g_175 := (congrFun eG_156 1024).trans ((va_up_ne _ _ (by decide)).trans g_154)
              have g_176 : G_156 1025 = some (.inl ((dA 0), 16, .inl (upd (mCp (A 25) (mKp A to d p0 (p1 + 7)) k) (eCnt (mKp A to d p0 (p1 + 7)) k) (A 25 k)))) := by rw [eG_156, va_up_self]
              have hG : G_156 = gM dA ad (va_up (va_up (va_up (va_up A 24 (mCp (A 24) (mKp A to d p0 (p1 + 7)) k)) 25 (mCp (A 25) (mKp A to d p0 (p1 + 7)) k)) 24 (upd (mCp (A 24) (mKp A to d p0 (p1 + 7)) k) (eCnt (mKp A to d p0 (p1 + 7)) k) (A 24 k))) 25 (upd (mCp (A 25) (mKp A to d p0 (p1 + 7)) k) (eCnt (mKp A to d p0 (p1 + 7)) k) (A 25 k))) B (va_up S 0 0) sd G0 := by rw [eG_156, hG]; exact gM_u25 _
              refine lv_iinc (v := nI ((eCnt (mKp A to d p0 (p1 + 7)) k) + 1)) (lv' := [(4, .int (nI ((eCnt (mKp A to d p0 (p1 + 7)) k) + 1))), (0, .ref (ad 1000)), (1, .int p0), (2, .int p1), (3, .int d), (5, .int (nI k))]) hx hb d_M_joined_145 hl (k := 4) rfl (nI_1 _) (by decide) rfl (fun ls hl => ?_)
              rw [← eCnt_pos hP] at hl
              refine lv_iinc (v := nI (k + 1)) (lv' := [(5, .int (nI (k + 1))), (4, .int (nI (eCnt (mKp A to d p0 (p1 + 7)) (k + 1)))), (0, .ref (ad 1000)), (1, .int p0), (2, .int p1), (3, .int d)]) hx hb d_M_joined_148 hl (k := 5) rfl (nI_1 _) (by decide) rfl (fun ls hl => ?_)
              refine lv_goto (tgt := 90) hx hb d_M_joined_151 (by decide) ?_
              rw [hG] at hm
              have hm : mS D mCl (mA ad G s.heap.size) s.heap ad (gM dA ad (va_up (va_up A 24 (mCp (A 24) (mKp A to d p0 (p1 + 7)) (k + 1))) 25 (mCp (A 25) (mKp A to d p0 (p1 + 7)) (k + 1))) B (va_up S 0 0) sd G0) H locs := by
                rw [mCp_pos hP, mCp_pos hP]
                have h9 : va_up (va_up (va_up (va_up A 24 (mCp (A 24) (mKp A to d p0 (p1 + 7)) k)) 25 (mCp (A 25) (mKp A to d p0 (p1 + 7)) k)) 24 (upd (mCp (A 24) (mKp A to d p0 (p1 + 7)) k) (eCnt (mKp A to d p0 (p1 + 7)) k) (A 24 k))) 25 (upd (mCp (A 25) (mKp A to d p0 (p1 + 7)) k) (eCnt (mKp A to d p0 (p1 + 7)) k) (A 25 k)) = va_up (va_up A 24 (upd (mCp (A 24) (mKp A to d p0 (p1 + 7)) k) (eCnt (mKp A to d p0 (p1 + 7)) k) (A 24 k))) 25 (upd (mCp (A 25) (mKp A to d p0 (p1 + 7)) k) (eCnt (mKp A to d p0 (p1 + 7)) k) (A 25 k)) := by
                  rw [upc (k := 25) (j := 24) _ _ _ (by decide), bx_uu, bx_uu]
                rw [← h9]
                exact hm
              exact ih90 (k + 1) ls H locs (⟨by omega, by omega, trivial⟩) (lv_sub hl [2, 3, 4, 5, 1, 0] rfl) hm
      · have hkn : k < on := by
          have h9 := Int32.not_le.mp c_52
          rw [hS6] at h9
          exact (nI_ltI (by omega) (by omega)).mp h9
        refine lv_iload_n hx hb d_M_joined_55 rfl (lv_at hl 3 rfl) ?_
        refine lv_if_ne (tgt := 72) hx hb d_M_joined_56 (by decide) (fun c_56 => ?_) (fun c_56 => ?_)
        · refine lv_iconst (v := 1) hx hb d_M_joined_72 (by decide) ?_
          refine lv_goto (tgt := 77) hx hb d_M_joined_73 (by decide) ?_
          have hd9 : bv 1 (∃ o, o < k + 1 ∧ mDu A to p0 (p1 + 2) o = true) := bv1 (by
            obtain ⟨o, h1, h2⟩ := bv_ne hI1 c_56
            exact ⟨o, by omega, h2⟩)
          refine lv_istore_n (lv' := [(3, .int 1), (0, .ref (ad 1000)), (1, .int p0), (2, .int p1), (4, .int (nI k))]) hx hb d_M_joined_77 rfl hl (by decide) rfl (fun ls hl => ?_)
          refine lv_iinc (v := nI (k + 1)) (lv' := [(4, .int (nI (k + 1))), (3, .int 1), (0, .ref (ad 1000)), (1, .int p0), (2, .int p1)]) hx hb d_M_joined_78 hl (k := 4) rfl (nI_1 _) (by decide) rfl (fun ls hl => ?_)
          refine lv_goto (tgt := 46) hx hb d_M_joined_81 (by decide) ?_
          exact ih46 (k + 1, 1) ls H locs (⟨by omega, by omega, hd9⟩) (lv_sub hl [2, 3, 4, 1, 0] rfl) hm
        · refine lv_aload_n hx hb d_M_joined_59 rfl (lv_at hl 0 rfl) ?_
          refine lv_iload hx hb d_M_joined_60 (lv_at hl 4 rfl) ?_
          refine lv_iload_n hx hb d_M_joined_62 rfl (lv_at hl 1 rfl) ?_
          refine lv_iload_n hx hb d_M_joined_63 rfl (lv_at hl 2 rfl) ?_
          refine lv_iconst (v := 2) hx hb d_M_joined_64 (by decide) ?_
          refine lv_iadd hx hb d_M_joined_65 ?_
          refine lv_topi (fun x_177 ex_177 => ?_)
          refine m_roi (m_runV (As := [.int (nI k), .int p0, .int x_177]) (rest := []) ⟨hx, hb, hml, hown, hts⟩ (c_M_isDue l D dA ad G_27 H.size A B (va_up S 0 0) sd G0 hG (nI k) p0 x_177 k (to k) (by omega) rfl (hto k hkn).1 (hto k hkn).2) (cwV 3 hts (gV k_809 k_806 k_808 ks_15 k_4) rfl rfl rfl (by decide +kernel) ⟨Nat.le_of_ble_eq_true rfl, Nat.le_of_ble_eq_true rfl⟩) hm hA hC 1000 rfl g_28 rfl rfl rfl hl.1 rfl (Nat.le_of_ble_eq_true rfl) d_M_joined_66 ⟨Nat.le_of_ble_eq_true rfl, Nat.le_of_ble_eq_true rfl⟩) hm hA (fun r_178 H locs w_179 hm => ?_)
          refine lv_if_eq (tgt := 76) hx hb d_M_joined_69 (by decide) (fun c_69 => ?_) (fun c_69 => ?_)
          · refine lv_iconst (v := 0) hx hb d_M_joined_76 (by decide) ?_
            have hd9 : bv 0 (∃ o, o < k + 1 ∧ mDu A to p0 (p1 + 2) o = true) := bv0 (fun h => by
              obtain ⟨o, h1, h2⟩ := h
              by_cases q : o = k
              · rw [q] at h2
                exact bv_eq (by have h9 := w_179; rw [ex_177] at h9; exact h9 : bv _ (A 3 (to k) = p0 ∧ A 25 k < p1 + 2)) c_69 (of_decide_eq_true h2)
              · exact bv_eq hI1 c_56 ⟨o, by omega, h2⟩)
            refine lv_istore_n (lv' := [(3, .int 0), (0, .ref (ad 1000)), (1, .int p0), (2, .int p1), (4, .int (nI k))]) hx hb d_M_joined_77 rfl hl (by decide) rfl (fun ls hl => ?_)
            refine lv_iinc (v := nI (k + 1)) (lv' := [(4, .int (nI (k + 1))), (3, .int 0), (0, .ref (ad 1000)), (1, .int p0), (2, .int p1)]) hx hb d_M_joined_78 hl (k := 4) rfl (nI_1 _) (by decide) rfl (fun ls hl => ?_)
            refine lv_goto (tgt := 46) hx hb d_M_joined_81 (by decide) ?_
            exact ih46 (k + 1, 0) ls H locs (⟨by omega, by omega, hd9⟩) (lv_sub hl [2, 3, 4, 1, 0] rfl) hm
          · refine lv_iconst (v := 1) hx hb d_M_joined_72 (by decide) ?_
            refine lv_goto (tgt := 77) hx hb d_M_joined_73 (by decide) ?_
            have hd9 : bv 1 (∃ o, o < k + 1 ∧ mDu A to p0 (p1 + 2) o = true) := bv1 ⟨k, by omega, decide_eq_true (bv_ne (by have h9 := w_179; rw [ex_177] at h9; exact h9 : bv _ (A 3 (to k) = p0 ∧ A 25 k < p1 + 2)) c_69)⟩
            refine lv_istore_n (lv' := [(3, .int 1), (0, .ref (ad 1000)), (1, .int p0), (2, .int p1), (4, .int (nI k))]) hx hb d_M_joined_77 rfl hl (by decide) rfl (fun ls hl => ?_)
            refine lv_iinc (v := nI (k + 1)) (lv' := [(4, .int (nI (k + 1))), (3, .int 1), (0, .ref (ad 1000)), (1, .int p0), (2, .int p1)]) hx hb d_M_joined_78 hl (k := 4) rfl (nI_1 _) (by decide) rfl (fun ls hl => ?_)
            refine lv_goto (tgt := 46) hx hb d_M_joined_81 (by decide) ?_
            exact ih46 (k + 1, 1) ls H locs (⟨by omega, by omega, hd9⟩) (lv_sub hl [2, 3, 4, 1, 0] rfl) hm
  · refine lv_iconst (v := 1) hx hb d_M_joined_8 (by decide) ?_
    refine lv_goto (tgt := 29) hx hb d_M_joined_9 (by decide) ?_
    refine m_put (v := .int 1) (ty := .int) (C := R_M) (T := T_M) (N := 28) hx hb hT in_M t_M tok_M nm_M hown hC.1 hm 1000 rfl ((congrFun hG 1000).trans gM_o) rfl 0 (by decide) (hT _ k_590) (fun _ h9 => h9) rfl (by decide +kernel) rfl rfl (Nat.le_of_ble_eq_true rfl) d_M_joined_29 (fun H locs hm => ?_)
    obtain ⟨G_180, eG_180⟩ : ∃ z : mG, z = va_up G 1000 (some (.inr (6, [.int 1, .long sd, .int (S 2), .ref (ad 1003), .ref (ad 1004), .ref (ad 1005), .ref (ad 1006), .ref (ad 1007), .ref (ad 1008), .ref (ad 1009), .ref (ad 1010), .ref (ad 1011), .ref (ad 1012), .ref (ad 1013), .ref (ad 1014), .ref (ad 1015), .ref (ad 1016), .int (S 17), .int (S 18), .int (S 19), .int (S 20), .ref (ad 1021), .ref (ad 1022), .ref (ad 1023), .ref (ad 1024), .ref (ad 1025), .int (S 26), .int (S 27)]))) := ⟨_, rfl⟩
    have hm : mS D mCl (mA ad G s.heap.size) s.heap ad G_180 H locs := by rw [eG_180]; exact hm
    have g_181 : G_180 1000 = some (.inr (6, [.int 1, .long sd, .int (S 2), .ref (ad 1003), .ref (ad 1004), .ref (ad 1005), .ref (ad 1006), .ref (ad 1007), .ref (ad 1008), .ref (ad 1009), .ref (ad 1010), .ref (ad 1011), .ref (ad 1012), .ref (ad 1013), .ref (ad 1014), .ref (ad 1015), .ref (ad 1016), .int (S 17), .int (S 18), .int (S 19), .int (S 20), .ref (ad 1021), .ref (ad 1022), .ref (ad 1023), .ref (ad 1024), .ref (ad 1025), .int (S 26), .int (S 27)])) := by rw [eG_180, va_up_self]
    have g_182 := (congrFun eG_180 1003).trans ((va_up_ne _ _ (by decide)).trans ((congrFun hG 1003).trans gM_3))
    have g_183 := (congrFun eG_180 1004).trans ((va_up_ne _ _ (by decide)).trans ((congrFun hG 1004).trans gM_4))
    have g_184 := (congrFun eG_180 1005).trans ((va_up_ne _ _ (by decide)).trans ((congrFun hG 1005).trans gM_5))
    have g_185 := (congrFun eG_180 1006).trans ((va_up_ne _ _ (by decide)).trans ((congrFun hG 1006).trans gM_6))
    have g_186 := (congrFun eG_180 1007).trans ((va_up_ne _ _ (by decide)).trans ((congrFun hG 1007).trans gM_7))
    have g_187 := (congrFun eG_180 1008).trans ((va_up_ne _ _ (by decide)).trans ((congrFun hG 1008).trans gM_8))
    have g_188 := (congrFun eG_180 1009).trans ((va_up_ne _ _ (by decide)).trans ((congrFun hG 1009).trans gM_9))
    have g_189 := (congrFun eG_180 1010).trans ((va_up_ne _ _ (by decide)).trans ((congrFun hG 1010).trans gM_10))
    have g_190 := (congrFun eG_180 1011).trans ((va_up_ne _ _ (by decide)).trans ((congrFun hG 1011).trans gM_11))
    have g_191 := (congrFun eG_180 1012).trans ((va_up_ne _ _ (by decide)).trans ((congrFun hG 1012).trans gM_12))
    have g_192 := (congrFun eG_180 1013).trans ((va_up_ne _ _ (by decide)).trans ((congrFun hG 1013).trans gM_13))
    have g_193 := (congrFun eG_180 1014).trans ((va_up_ne _ _ (by decide)).trans ((congrFun hG 1014).trans gM_14))
    have g_194 := (congrFun eG_180 1015).trans ((va_up_ne _ _ (by decide)).trans ((congrFun hG 1015).trans gM_15))
    have g_195 := (congrFun eG_180 1016).trans ((va_up_ne _ _ (by decide)).trans ((congrFun hG 1016).trans gM_16))
    have g_196 := (congrFun eG_180 1021).trans ((va_up_ne _ _ (by decide)).trans ((congrFun hG 1021).trans gM_21))
    have g_197 := (congrFun eG_180 1022).trans ((va_up_ne _ _ (by decide)).trans ((congrFun hG 1022).trans gM_22))
    have g_198 := (congrFun eG_180 1023).trans ((va_up_ne _ _ (by decide)).trans ((congrFun hG 1023).trans gM_23))
    have g_199 := (congrFun eG_180 1024).trans ((va_up_ne _ _ (by decide)).trans ((congrFun hG 1024).trans gM_24))
    have g_200 := (congrFun eG_180 1025).trans ((va_up_ne _ _ (by decide)).trans ((congrFun hG 1025).trans gM_25))
    have hG : G_180 = gM dA ad A B (va_up S 0 1) sd G0 := by rw [eG_180, hG]; exact gM_uo (va_up S 0 1)
    refine lv_aload_n hx hb d_M_joined_32 rfl (lv_at hl 0 rfl) ?_
    refine m_get (v := .int 1) (C := R_M) (T := T_M) (N := 28) hx hb hT in_M hown hC.1 hm 1000 rfl g_181 rfl 0 (by decide) (hT _ k_590) (fun _ h9 => h9) rfl d_M_joined_33 ?_
    refine lv_if_le (tgt := 41) hx hb d_M_joined_36 (by decide) (fun c9 => absurd c9 (by decide)) (fun _ => ?_)
    refine lv_iconst (v := 0) hx hb d_M_joined_39 (by decide) ?_
    exact m_iret (v := 0) hx hb hr hm (Or.inl ⟨bv_eq w_2 c_5, by rw [hG]⟩) d_M_joined_40 hlocks

set_option maxHeartbeats 4000000 in
set_option maxRecDepth 100000 in
theorem c_M_open (l : Launch) (D : va_G) (dA : Nat → ClassId) (ad : Nat → Nat) (G : mG) (sz : Nat) (A : Nat → Nat → Int32) (B : Nat → Nat → Int64) (S : Nat → Int32) (sd : Int64) (G0 : mG) (hG : G = gM dA ad A B S sd G0) : Met l y_M_open (.code y_M_open b_M_open 1 (some .int) :: mBig) ({ frames := 0, cells := 0, slots := 0, locals := 0 }) (mPc [.ref (ad 1000)] D mCl (mTys dA) mTx ad G sz) (mQi (fun (rv : Int32) (u : mU) => (rv = S 26 ∧ u = (ad, gM dA ad A B (va_up S 0 0) sd G0))) D mCl ad G sz) 0 0 (mA ad G sz) := by
  refine Met.ofW (cc := b_M_open) (maxL := 1) (ret := (some .int)) (by decide) rfl ?_
  intro p e s m args below meth c s₁ BB hml hv
  obtain ⟨rfl, hsz, hw0, hC⟩ := hv
  have hx := BB.exec
  have hb := BB.bytes
  have hr := BB.returns
  have hts := atoms_spec (ws := .code y_M_open b_M_open 1 (some .int) :: mBig) BB.pre
  have hT : ∀ w ∈ mBig, w.before _ s = true := fun w h => hts w (List.mem_cons_of_mem _ h)
  have hown : s.vm.findClass "EdgeWearModel" = some m.cls := findClass_of_methodNamed BB.named
  have hlocks := BB.notSynchronized
  subst hsz
  have hm := mS.start hw0
  have hA : ∀ q : Nat, s.heap.size ≤ q → mA ad G s.heap.size q := fun q h => Or.inr h
  have hl := lv_entry ([.ref (ad 1000)]) (n := 1) (Nat.le_of_ble_eq_true rfl)
  rw [lg_entry_eq]
  generalize (lg_sl ([.ref (ad 1000)]) ++ List.replicate (1 - (lg_sl ([.ref (ad 1000)])).length) Slot.unset).toArray = ls at hl ⊢
  have hl : lv_has ls 1 [(0, .ref (ad 1000))] := hl
  refine lv_aload_n hx hb d_M_open_0 rfl (lv_at hl 0 rfl) ?_
  refine lv_iconst (v := 0) hx hb d_M_open_1 (by decide) ?_
  refine m_put (v := .int 0) (ty := .int) (C := R_M) (T := T_M) (N := 28) hx hb hT in_M t_M tok_M nm_M hown hC.1 hm 1000 rfl ((congrFun hG 1000).trans gM_o) rfl 0 (by decide) (hT _ k_590) (fun _ h9 => h9) rfl (by decide +kernel) rfl rfl (Nat.le_of_ble_eq_true rfl) d_M_open_2 (fun H locs hm => ?_)
  obtain ⟨G_1, eG_1⟩ : ∃ z : mG, z = va_up G 1000 (some (.inr (6, [.int 0, .long sd, .int (S 2), .ref (ad 1003), .ref (ad 1004), .ref (ad 1005), .ref (ad 1006), .ref (ad 1007), .ref (ad 1008), .ref (ad 1009), .ref (ad 1010), .ref (ad 1011), .ref (ad 1012), .ref (ad 1013), .ref (ad 1014), .ref (ad 1015), .ref (ad 1016), .int (S 17), .int (S 18), .int (S 19), .int (S 20), .ref (ad 1021), .ref (ad 1022), .ref (ad 1023), .ref (ad 1024), .ref (ad 1025), .int (S 26), .int (S 27)]))) := ⟨_, rfl⟩
  have hm : mS D mCl (mA ad G s.heap.size) s.heap ad G_1 H locs := by rw [eG_1]; exact hm
  have g_2 : G_1 1000 = some (.inr (6, [.int 0, .long sd, .int (S 2), .ref (ad 1003), .ref (ad 1004), .ref (ad 1005), .ref (ad 1006), .ref (ad 1007), .ref (ad 1008), .ref (ad 1009), .ref (ad 1010), .ref (ad 1011), .ref (ad 1012), .ref (ad 1013), .ref (ad 1014), .ref (ad 1015), .ref (ad 1016), .int (S 17), .int (S 18), .int (S 19), .int (S 20), .ref (ad 1021), .ref (ad 1022), .ref (ad 1023), .ref (ad 1024), .ref (ad 1025), .int (S 26), .int (S 27)])) := by rw [eG_1, va_up_self]
  have g_3 := (congrFun eG_1 1003).trans ((va_up_ne _ _ (by decide)).trans ((congrFun hG 1003).trans gM_3))
  have g_4 := (congrFun eG_1 1004).trans ((va_up_ne _ _ (by decide)).trans ((congrFun hG 1004).trans gM_4))
  have g_5 := (congrFun eG_1 1005).trans ((va_up_ne _ _ (by decide)).trans ((congrFun hG 1005).trans gM_5))
  have g_6 := (congrFun eG_1 1006).trans ((va_up_ne _ _ (by decide)).trans ((congrFun hG 1006).trans gM_6))
  have g_7 := (congrFun eG_1 1007).trans ((va_up_ne _ _ (by decide)).trans ((congrFun hG 1007).trans gM_7))
  have g_8 := (congrFun eG_1 1008).trans ((va_up_ne _ _ (by decide)).trans ((congrFun hG 1008).trans gM_8))
  have g_9 := (congrFun eG_1 1009).trans ((va_up_ne _ _ (by decide)).trans ((congrFun hG 1009).trans gM_9))
  have g_10 := (congrFun eG_1 1010).trans ((va_up_ne _ _ (by decide)).trans ((congrFun hG 1010).trans gM_10))
  have g_11 := (congrFun eG_1 1011).trans ((va_up_ne _ _ (by decide)).trans ((congrFun hG 1011).trans gM_11))
  have g_12 := (congrFun eG_1 1012).trans ((va_up_ne _ _ (by decide)).trans ((congrFun hG 1012).trans gM_12))
  have g_13 := (congrFun eG_1 1013).trans ((va_up_ne _ _ (by decide)).trans ((congrFun hG 1013).trans gM_13))
  have g_14 := (congrFun eG_1 1014).trans ((va_up_ne _ _ (by decide)).trans ((congrFun hG 1014).trans gM_14))
  have g_15 := (congrFun eG_1 1015).trans ((va_up_ne _ _ (by decide)).trans ((congrFun hG 1015).trans gM_15))
  have g_16 := (congrFun eG_1 1016).trans ((va_up_ne _ _ (by decide)).trans ((congrFun hG 1016).trans gM_16))
  have g_17 := (congrFun eG_1 1021).trans ((va_up_ne _ _ (by decide)).trans ((congrFun hG 1021).trans gM_21))
  have g_18 := (congrFun eG_1 1022).trans ((va_up_ne _ _ (by decide)).trans ((congrFun hG 1022).trans gM_22))
  have g_19 := (congrFun eG_1 1023).trans ((va_up_ne _ _ (by decide)).trans ((congrFun hG 1023).trans gM_23))
  have g_20 := (congrFun eG_1 1024).trans ((va_up_ne _ _ (by decide)).trans ((congrFun hG 1024).trans gM_24))
  have g_21 := (congrFun eG_1 1025).trans ((va_up_ne _ _ (by decide)).trans ((congrFun hG 1025).trans gM_25))
  have hG : G_1 = gM dA ad A B (va_up S 0 0) sd G0 := by rw [eG_1, hG]; exact gM_uo (va_up S 0 0)
  refine lv_aload_n hx hb d_M_open_5 rfl (lv_at hl 0 rfl) ?_
  refine m_get (v := .int (S 26)) (C := R_M) (T := T_M) (N := 28) hx hb hT in_M hown hC.1 hm 1000 rfl g_2 rfl 26 (by decide) (hT _ k_616) (fun _ h9 => h9) rfl d_M_open_6 ?_
  exact m_iret (v := S 26) hx hb hr hm (⟨rfl, by rw [hG]⟩) d_M_open_9 hlocks
