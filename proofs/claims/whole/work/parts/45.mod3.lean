set_option maxHeartbeats 4000000 in
set_option maxRecDepth 100000 in
theorem c_M_use (l : Launch) (D : va_G) (dA : Nat → ClassId) (ad : Nat → Nat) (G : mG) (sz : Nat) (A : Nat → Nat → Int32) (B : Nat → Nat → Int64) (S : Nat → Int32) (sd : Int64) (G0 : mG) (hG : G = gM dA ad A B S sd G0) (tc : Nat) (hS : S 2 = nI tc) (ht : tc ≤ 12) (si : Nat → Nat) (hs : ∀ i, i < tc → si i < 4 ∧ A 3 i = nI (si i)) (p0 p1 p2 p3 : Int32) : Met l y_M_use (.code y_M_use b_M_use 5 (some .boolean) :: mBig) ({ frames := 1, cells := 0, slots := 0, locals := 25 }) (mPc [.ref (ad 1000), .int p0, .int p1, .int p2, .int p3] D mCl (mTys dA) mTx ad G sz) (mQi (fun (rv : Int32) (u : mU) => ((¬ ((∃ i, i < tc ∧ p0 = nI i) ∧ (∃ a, a < 4 ∧ p2 = nI a) ∧ ∃ b, b < 4 ∧ p3 = nI b) ∧ u = (ad, gM dA ad A B (va_up S 0 1) sd G0)) ∨ (((∃ i, i < tc ∧ p0 = nI i) ∧ (∃ a, a < 4 ∧ p2 = nI a) ∧ ∃ b, b < 4 ∧ p3 = nI b) ∧ (p1 < 0 ∨ 1000000 < p1) ∧ u = (ad, gM dA ad A B (va_up S 0 2) sd G0)) ∨ ((∃ i, i < tc ∧ p0 = nI i ∧ ¬ A 7 i = 0) ∧ (∃ a, a < 4 ∧ p2 = nI a) ∧ (∃ b, b < 4 ∧ p3 = nI b) ∧ ¬ (p1 < 0 ∨ 1000000 < p1) ∧ u = (ad, gM dA ad A B (va_up S 0 3) sd G0)) ∨ (∃ t a b, t < tc ∧ p0 = nI t ∧ a < 4 ∧ p2 = nI a ∧ b < 4 ∧ p3 = nI b ∧ ¬ (p1 < 0 ∨ 1000000 < p1) ∧ A 7 t = 0 ∧ bv rv (¬ B 12 (si t) < eWear (B 6 t) (p1.toInt64 * B 11 (4 * a + b))) ∧ u = (ad, gM dA ad (va_up A 9 (upd (A 9) t (A 9 t + 1))) (va_up B 6 (vp_updL (B 6) t (eWear (B 6 t) (p1.toInt64 * B 11 (4 * a + b))))) (va_up S 0 0) sd G0)))) D mCl ad G sz) 0 0 (mA ad G sz) := by
  refine Met.ofW (cc := b_M_use) (maxL := 5) (ret := (some .boolean)) (by decide) rfl ?_
  intro p e s m args below meth c s₁ BB hml hv
  obtain ⟨rfl, hsz, hw0, hC⟩ := hv
  have hx := BB.exec
  have hb := BB.bytes
  have hr := BB.returns
  have hts := atoms_spec (ws := .code y_M_use b_M_use 5 (some .boolean) :: mBig) BB.pre
  have hT : ∀ w ∈ mBig, w.before _ s = true := fun w h => hts w (List.mem_cons_of_mem _ h)
  have hown : s.vm.findClass "EdgeWearModel" = some m.cls := findClass_of_methodNamed BB.named
  have hlocks := BB.notSynchronized
  subst hsz
  have hm := mS.start hw0
  have hA : ∀ q : Nat, s.heap.size ≤ q → mA ad G s.heap.size q := fun q h => Or.inr h
  have hl := lv_entry ([.ref (ad 1000), .int p0, .int p1, .int p2, .int p3]) (n := 5) (Nat.le_of_ble_eq_true rfl)
  rw [lg_entry_eq]
  generalize (lg_sl ([.ref (ad 1000), .int p0, .int p1, .int p2, .int p3]) ++ List.replicate (5 - (lg_sl ([.ref (ad 1000), .int p0, .int p1, .int p2, .int p3])).length) Slot.unset).toArray = ls at hl ⊢
  have hl : lv_has ls 5 [(0, .ref (ad 1000)), (1, .int p0), (2, .int p1), (3, .int p2), (4, .int p3)] := hl
  refine lv_aload_n hx hb d_M_use_0 rfl (lv_at hl 0 rfl) ?_
  refine lv_aload_n hx hb d_M_use_1 rfl (lv_at hl 0 rfl) ?_
  refine lv_iload_n hx hb d_M_use_2 rfl (lv_at hl 1 rfl) ?_
  refine m_roi (m_runV (As := [.int p0]) (rest := [.ref (ad 1000)]) ⟨hx, hb, hml, hown, hts⟩ (c_M_noTool l D dA ad G s.heap.size A B S sd G0 hG tc hS ht p0) (cwV 1 hts (gV k_708 k_705 k_707 ks_7 k_4) rfl rfl rfl (by decide +kernel) ⟨Nat.le_of_ble_eq_true rfl, Nat.le_of_ble_eq_true rfl⟩) hm hA hC 1000 rfl ((congrFun hG 1000).trans gM_o) rfl rfl rfl hl.1 rfl (Nat.le_of_ble_eq_true rfl) d_M_use_3 ⟨Nat.le_of_ble_eq_true rfl, Nat.le_of_ble_eq_true rfl⟩) hm hA (fun r_1 H locs w_2 hm => ?_)
  refine lv_if_ne (tgt := 24) hx hb d_M_use_6 (by decide) (fun c_6 => ?_) (fun c_6 => ?_)
  · refine lv_iconst (v := 1) hx hb d_M_use_24 (by decide) ?_
    refine lv_goto (tgt := 58) hx hb d_M_use_25 (by decide) ?_
    refine m_put (v := .int 1) (ty := .int) (C := R_M) (T := T_M) (N := 28) hx hb hT in_M t_M tok_M nm_M hown hC.1 hm 1000 rfl ((congrFun hG 1000).trans gM_o) rfl 0 (by decide) (hT _ k_590) (fun _ h9 => h9) rfl (by decide +kernel) rfl rfl (Nat.le_of_ble_eq_true rfl) d_M_use_58 (fun H locs hm => ?_)
    obtain ⟨G_3, eG_3⟩ : ∃ z : mG, z = va_up G 1000 (some (.inr (6, [.int 1, .long sd, .int (S 2), .ref (ad 1003), .ref (ad 1004), .ref (ad 1005), .ref (ad 1006), .ref (ad 1007), .ref (ad 1008), .ref (ad 1009), .ref (ad 1010), .ref (ad 1011), .ref (ad 1012), .ref (ad 1013), .ref (ad 1014), .ref (ad 1015), .ref (ad 1016), .int (S 17), .int (S 18), .int (S 19), .int (S 20), .ref (ad 1021), .ref (ad 1022), .ref (ad 1023), .ref (ad 1024), .ref (ad 1025), .int (S 26), .int (S 27)]))) := ⟨_, rfl⟩
    have hm : mS D mCl (mA ad G s.heap.size) s.heap ad G_3 H locs := by rw [eG_3]; exact hm
    have g_4 : G_3 1000 = some (.inr (6, [.int 1, .long sd, .int (S 2), .ref (ad 1003), .ref (ad 1004), .ref (ad 1005), .ref (ad 1006), .ref (ad 1007), .ref (ad 1008), .ref (ad 1009), .ref (ad 1010), .ref (ad 1011), .ref (ad 1012), .ref (ad 1013), .ref (ad 1014), .ref (ad 1015), .ref (ad 1016), .int (S 17), .int (S 18), .int (S 19), .int (S 20), .ref (ad 1021), .ref (ad 1022), .ref (ad 1023), .ref (ad 1024), .ref (ad 1025), .int (S 26), .int (S 27)])) := by rw [eG_3, va_up_self]
    have g_5 := (congrFun eG_3 1003).trans ((va_up_ne _ _ (by decide)).trans ((congrFun hG 1003).trans gM_3))
    have g_6 := (congrFun eG_3 1004).trans ((va_up_ne _ _ (by decide)).trans ((congrFun hG 1004).trans gM_4))
    have g_7 := (congrFun eG_3 1005).trans ((va_up_ne _ _ (by decide)).trans ((congrFun hG 1005).trans gM_5))
    have g_8 := (congrFun eG_3 1006).trans ((va_up_ne _ _ (by decide)).trans ((congrFun hG 1006).trans gM_6))
    have g_9 := (congrFun eG_3 1007).trans ((va_up_ne _ _ (by decide)).trans ((congrFun hG 1007).trans gM_7))
    have g_10 := (congrFun eG_3 1008).trans ((va_up_ne _ _ (by decide)).trans ((congrFun hG 1008).trans gM_8))
    have g_11 := (congrFun eG_3 1009).trans ((va_up_ne _ _ (by decide)).trans ((congrFun hG 1009).trans gM_9))
    have g_12 := (congrFun eG_3 1010).trans ((va_up_ne _ _ (by decide)).trans ((congrFun hG 1010).trans gM_10))
    have g_13 := (congrFun eG_3 1011).trans ((va_up_ne _ _ (by decide)).trans ((congrFun hG 1011).trans gM_11))
    have g_14 := (congrFun eG_3 1012).trans ((va_up_ne _ _ (by decide)).trans ((congrFun hG 1012).trans gM_12))
    have g_15 := (congrFun eG_3 1013).trans ((va_up_ne _ _ (by decide)).trans ((congrFun hG 1013).trans gM_13))
    have g_16 := (congrFun eG_3 1014).trans ((va_up_ne _ _ (by decide)).trans ((congrFun hG 1014).trans gM_14))
    have g_17 := (congrFun eG_3 1015).trans ((va_up_ne _ _ (by decide)).trans ((congrFun hG 1015).trans gM_15))
    have g_18 := (congrFun eG_3 1016).trans ((va_up_ne _ _ (by decide)).trans ((congrFun hG 1016).trans gM_16))
    have g_19 := (congrFun eG_3 1021).trans ((va_up_ne _ _ (by decide)).trans ((congrFun hG 1021).trans gM_21))
    have g_20 := (congrFun eG_3 1022).trans ((va_up_ne _ _ (by decide)).trans ((congrFun hG 1022).trans gM_22))
    have g_21 := (congrFun eG_3 1023).trans ((va_up_ne _ _ (by decide)).trans ((congrFun hG 1023).trans gM_23))
    have g_22 := (congrFun eG_3 1024).trans ((va_up_ne _ _ (by decide)).trans ((congrFun hG 1024).trans gM_24))
    have g_23 := (congrFun eG_3 1025).trans ((va_up_ne _ _ (by decide)).trans ((congrFun hG 1025).trans gM_25))
    have hG : G_3 = gM dA ad A B (va_up S 0 1) sd G0 := by rw [eG_3, hG]; exact gM_uo (va_up S 0 1)
    refine lv_aload_n hx hb d_M_use_61 rfl (lv_at hl 0 rfl) ?_
    refine m_get (v := .int 1) (C := R_M) (T := T_M) (N := 28) hx hb hT in_M hown hC.1 hm 1000 rfl g_4 rfl 0 (by decide) (hT _ k_590) (fun _ h9 => h9) rfl d_M_use_62 ?_
    refine lv_if_le (tgt := 70) hx hb d_M_use_65 (by decide) (fun c9 => absurd c9 (by decide)) (fun _ => ?_)
    refine lv_iconst (v := 0) hx hb d_M_use_68 (by decide) ?_
    exact m_zret (v := 0) hx hb hr rfl hm (Or.inl ⟨fun h => bv_ne w_2 c_6 h.1, by rw [hG]⟩) d_M_use_69 hlocks
  · refine lv_iload_n hx hb d_M_use_9 rfl (lv_at hl 3 rfl) ?_
    refine m_roi (m_runS (As := [.int p2]) (rest := [.ref (ad 1000)]) ⟨hx, hb, hml, hown, hts⟩ (c_M_isFour l D dA ad G H.size p2) (va_cwS 1 hts (gS k_687 k_685 k_686 k_4) rfl rfl rfl (by decide +kernel) ⟨Nat.le_of_ble_eq_true rfl, Nat.le_of_ble_eq_true rfl⟩) hm hA hC rfl hl.1 rfl (Nat.le_of_ble_eq_true rfl) d_M_use_10 ⟨Nat.le_of_ble_eq_true rfl, Nat.le_of_ble_eq_true rfl⟩) hm hA (fun r_24 H locs w_25 hm => ?_)
    refine lv_if_eq (tgt := 24) hx hb d_M_use_13 (by decide) (fun c_13 => ?_) (fun c_13 => ?_)
    · refine lv_iconst (v := 1) hx hb d_M_use_24 (by decide) ?_
      refine lv_goto (tgt := 58) hx hb d_M_use_25 (by decide) ?_
      refine m_put (v := .int 1) (ty := .int) (C := R_M) (T := T_M) (N := 28) hx hb hT in_M t_M tok_M nm_M hown hC.1 hm 1000 rfl ((congrFun hG 1000).trans gM_o) rfl 0 (by decide) (hT _ k_590) (fun _ h9 => h9) rfl (by decide +kernel) rfl rfl (Nat.le_of_ble_eq_true rfl) d_M_use_58 (fun H locs hm => ?_)
      obtain ⟨G_26, eG_26⟩ : ∃ z : mG, z = va_up G 1000 (some (.inr (6, [.int 1, .long sd, .int (S 2), .ref (ad 1003), .ref (ad 1004), .ref (ad 1005), .ref (ad 1006), .ref (ad 1007), .ref (ad 1008), .ref (ad 1009), .ref (ad 1010), .ref (ad 1011), .ref (ad 1012), .ref (ad 1013), .ref (ad 1014), .ref (ad 1015), .ref (ad 1016), .int (S 17), .int (S 18), .int (S 19), .int (S 20), .ref (ad 1021), .ref (ad 1022), .ref (ad 1023), .ref (ad 1024), .ref (ad 1025), .int (S 26), .int (S 27)]))) := ⟨_, rfl⟩
      have hm : mS D mCl (mA ad G s.heap.size) s.heap ad G_26 H locs := by rw [eG_26]; exact hm
      have g_27 : G_26 1000 = some (.inr (6, [.int 1, .long sd, .int (S 2), .ref (ad 1003), .ref (ad 1004), .ref (ad 1005), .ref (ad 1006), .ref (ad 1007), .ref (ad 1008), .ref (ad 1009), .ref (ad 1010), .ref (ad 1011), .ref (ad 1012), .ref (ad 1013), .ref (ad 1014), .ref (ad 1015), .ref (ad 1016), .int (S 17), .int (S 18), .int (S 19), .int (S 20), .ref (ad 1021), .ref (ad 1022), .ref (ad 1023), .ref (ad 1024), .ref (ad 1025), .int (S 26), .int (S 27)])) := by rw [eG_26, va_up_self]
      have g_28 := (congrFun eG_26 1003).trans ((va_up_ne _ _ (by decide)).trans ((congrFun hG 1003).trans gM_3))
      have g_29 := (congrFun eG_26 1004).trans ((va_up_ne _ _ (by decide)).trans ((congrFun hG 1004).trans gM_4))
      have g_30 := (congrFun eG_26 1005).trans ((va_up_ne _ _ (by decide)).trans ((congrFun hG 1005).trans gM_5))
      have g_31 := (congrFun eG_26 1006).trans ((va_up_ne _ _ (by decide)).trans ((congrFun hG 1006).trans gM_6))
      have g_32 := (congrFun eG_26 1007).trans ((va_up_ne _ _ (by decide)).trans ((congrFun hG 1007).trans gM_7))
      have g_33 := (congrFun eG_26 1008).trans ((va_up_ne _ _ (by decide)).trans ((congrFun hG 1008).trans gM_8))
      have g_34 := (congrFun eG_26 1009).trans ((va_up_ne _ _ (by decide)).trans ((congrFun hG 1009).trans gM_9))
      have g_35 := (congrFun eG_26 1010).trans ((va_up_ne _ _ (by decide)).trans ((congrFun hG 1010).trans gM_10))
      have g_36 := (congrFun eG_26 1011).trans ((va_up_ne _ _ (by decide)).trans ((congrFun hG 1011).trans gM_11))
      have g_37 := (congrFun eG_26 1012).trans ((va_up_ne _ _ (by decide)).trans ((congrFun hG 1012).trans gM_12))
      have g_38 := (congrFun eG_26 1013).trans ((va_up_ne _ _ (by decide)).trans ((congrFun hG 1013).trans gM_13))
      have g_39 := (congrFun eG_26 1014).trans ((va_up_ne _ _ (by decide)).trans ((congrFun hG 1014).trans gM_14))
      have g_40 := (congrFun eG_26 1015).trans ((va_up_ne _ _ (by decide)).trans ((congrFun hG 1015).trans gM_15))
      have g_41 := (congrFun eG_26 1016).trans ((va_up_ne _ _ (by decide)).trans ((congrFun hG 1016).trans gM_16))
      have g_42 := (congrFun eG_26 1021).trans ((va_up_ne _ _ (by decide)).trans ((congrFun hG 1021).trans gM_21))
      have g_43 := (congrFun eG_26 1022).trans ((va_up_ne _ _ (by decide)).trans ((congrFun hG 1022).trans gM_22))
      have g_44 := (congrFun eG_26 1023).trans ((va_up_ne _ _ (by decide)).trans ((congrFun hG 1023).trans gM_23))
      have g_45 := (congrFun eG_26 1024).trans ((va_up_ne _ _ (by decide)).trans ((congrFun hG 1024).trans gM_24))
      have g_46 := (congrFun eG_26 1025).trans ((va_up_ne _ _ (by decide)).trans ((congrFun hG 1025).trans gM_25))
      have hG : G_26 = gM dA ad A B (va_up S 0 1) sd G0 := by rw [eG_26, hG]; exact gM_uo (va_up S 0 1)
      refine lv_aload_n hx hb d_M_use_61 rfl (lv_at hl 0 rfl) ?_
      refine m_get (v := .int 1) (C := R_M) (T := T_M) (N := 28) hx hb hT in_M hown hC.1 hm 1000 rfl g_27 rfl 0 (by decide) (hT _ k_590) (fun _ h9 => h9) rfl d_M_use_62 ?_
      refine lv_if_le (tgt := 70) hx hb d_M_use_65 (by decide) (fun c9 => absurd c9 (by decide)) (fun _ => ?_)
      refine lv_iconst (v := 0) hx hb d_M_use_68 (by decide) ?_
      exact m_zret (v := 0) hx hb hr rfl hm (Or.inl ⟨fun h => bv_eq w_25 c_13 h.2.1, by rw [hG]⟩) d_M_use_69 hlocks
    · refine lv_iload hx hb d_M_use_16 (lv_at hl 4 rfl) ?_
      refine m_roi (m_runS (As := [.int p3]) (rest := [.ref (ad 1000)]) ⟨hx, hb, hml, hown, hts⟩ (c_M_isFour l D dA ad G H.size p3) (va_cwS 1 hts (gS k_687 k_685 k_686 k_4) rfl rfl rfl (by decide +kernel) ⟨Nat.le_of_ble_eq_true rfl, Nat.le_of_ble_eq_true rfl⟩) hm hA hC rfl hl.1 rfl (Nat.le_of_ble_eq_true rfl) d_M_use_18 ⟨Nat.le_of_ble_eq_true rfl, Nat.le_of_ble_eq_true rfl⟩) hm hA (fun r_47 H locs w_48 hm => ?_)
      refine lv_if_ne (tgt := 28) hx hb d_M_use_21 (by decide) (fun c_21 => ?_) (fun c_21 => ?_)
      · refine lv_iload_n hx hb d_M_use_28 rfl (lv_at hl 2 rfl) ?_
        refine lv_i2l hx hb d_M_use_29 rfl ?_
        refine lv_topl (fun x_49 ex_49 => ?_)
        refine lv_lconst (v := 0) hx hb d_M_use_30 (by decide) ?_
        refine lv_ldc2 (v := 1000000) hx hb hown (hT _ k_589) d_M_use_31 ?_
        refine m_roi (m_runS (As := [.long x_49, .long 0, .long 1000000]) (rest := [.ref (ad 1000)]) ⟨hx, hb, hml, hown, hts⟩ (c_M_isIn l D dA ad G H.size x_49 0 1000000) (va_cwS 3 hts (gS k_690 k_688 k_689 k_4) rfl rfl rfl (by decide +kernel) ⟨Nat.le_of_ble_eq_true rfl, Nat.le_of_ble_eq_true rfl⟩) hm hA hC rfl hl.1 rfl (Nat.le_of_ble_eq_true rfl) d_M_use_34 ⟨Nat.le_of_ble_eq_true rfl, Nat.le_of_ble_eq_true rfl⟩) hm hA (fun r_50 H locs w_51 hm => ?_)
        refine lv_if_ne (tgt := 44) hx hb d_M_use_37 (by decide) (fun c_37 => ?_) (fun c_37 => ?_)
        · obtain ⟨t, ht2, ep⟩ := Classical.not_not.mp (bv_eq w_2 c_6)
          obtain ⟨a, ha4, ea⟩ := bv_ne w_25 c_13
          obtain ⟨b, hb4, eb⟩ := bv_ne w_48 c_21
          refine lv_aload_n hx hb d_M_use_44 rfl (lv_at hl 0 rfl) ?_
          refine m_get (v := .ref (ad 1007)) (C := R_M) (T := T_M) (N := 28) hx hb hT in_M hown hC.1 hm 1000 rfl ((congrFun hG 1000).trans gM_o) rfl 7 (by decide) (hT _ k_597) (fun _ h9 => h9) rfl d_M_use_45 ?_
          refine lv_iload_n hx hb d_M_use_48 rfl (lv_at hl 1 rfl) ?_
          refine m_zald (v := A 7 t) hx hb hC.1 hm 1007 rfl 2 ((congrFun hG 1007).trans gM_7) rfl (by rw [ep]; exact vp_in_nI (by omega) (by decide)) (by rw [ep, nI_clamp (by omega)]) d_M_use_49 ?_
          refine lv_if_eq (tgt := 57) hx hb d_M_use_50 (by decide) (fun c_50 => ?_) (fun c_50 => ?_)
          · refine lv_iconst (v := 0) hx hb d_M_use_57 (by decide) ?_
            refine m_put (v := .int 0) (ty := .int) (C := R_M) (T := T_M) (N := 28) hx hb hT in_M t_M tok_M nm_M hown hC.1 hm 1000 rfl ((congrFun hG 1000).trans gM_o) rfl 0 (by decide) (hT _ k_590) (fun _ h9 => h9) rfl (by decide +kernel) rfl rfl (Nat.le_of_ble_eq_true rfl) d_M_use_58 (fun H locs hm => ?_)
            obtain ⟨G_52, eG_52⟩ : ∃ z : mG, z = va_up G 1000 (some (.inr (6, [.int 0, .long sd, .int (S 2), .ref (ad 1003), .ref (ad 1004), .ref (ad 1005), .ref (ad 1006), .ref (ad 1007), .ref (ad 1008), .ref (ad 1009), .ref (ad 1010), .ref (ad 1011), .ref (ad 1012), .ref (ad 1013), .ref (ad 1014), .ref (ad 1015), .ref (ad 1016), .int (S 17), .int (S 18), .int (S 19), .int (S 20), .ref (ad 1021), .ref (ad 1022), .ref (ad 1023), .ref (ad 1024), .ref (ad 1025), .int (S 26), .int (S 27)]))) := ⟨_, rfl⟩
            have hm : mS D mCl (mA ad G s.heap.size) s.heap ad G_52 H locs := by rw [eG_52]; exact hm
            have g_53 : G_52 1000 = some (.inr (6, [.int 0, .long sd, .int (S 2), .ref (ad 1003), .ref (ad 1004), .ref (ad 1005), .ref (ad 1006), .ref (ad 1007), .ref (ad 1008), .ref (ad 1009), .ref (ad 1010), .ref (ad 1011), .ref (ad 1012), .ref (ad 1013), .ref (ad 1014), .ref (ad 1015), .ref (ad 1016), .int (S 17), .int (S 18), .int (S 19), .int (S 20), .ref (ad 1021), .ref (ad 1022), .ref (ad 1023), .ref (ad 1024), .ref (ad 1025), .int (S 26), .int (S 27)])) := by rw [eG_52, va_up_self]
            have g_54 := (congrFun eG_52 1003).trans ((va_up_ne _ _ (by decide)).trans ((congrFun hG 1003).trans gM_3))
            have g_55 := (congrFun eG_52 1004).trans ((va_up_ne _ _ (by decide)).trans ((congrFun hG 1004).trans gM_4))
            have g_56 := (congrFun eG_52 1005).trans ((va_up_ne _ _ (by decide)).trans ((congrFun hG 1005).trans gM_5))
            have g_57 := (congrFun eG_52 1006).trans ((va_up_ne _ _ (by decide)).trans ((congrFun hG 1006).trans gM_6))
            have g_58 := (congrFun eG_52 1007).trans ((va_up_ne _ _ (by decide)).trans ((congrFun hG 1007).trans gM_7))
            have g_59 := (congrFun eG_52 1008).trans ((va_up_ne _ _ (by decide)).trans ((congrFun hG 1008).trans gM_8))
            have g_60 := (congrFun eG_52 1009).trans ((va_up_ne _ _ (by decide)).trans ((congrFun hG 1009).trans gM_9))
            have g_61 := (congrFun eG_52 1010).trans ((va_up_ne _ _ (by decide)).trans ((congrFun hG 1010).trans gM_10))
            have g_62 := (congrFun eG_52 1011).trans ((va_up_ne _ _ (by decide)).trans ((congrFun hG 1011).trans gM_11))
            have g_63 := (congrFun eG_52 1012).trans ((va_up_ne _ _ (by decide)).trans ((congrFun hG 1012).trans gM_12))
            have g_64 := (congrFun eG_52 1013).trans ((va_up_ne _ _ (by decide)).trans ((congrFun hG 1013).trans gM_13))
            have g_65 := (congrFun eG_52 1014).trans ((va_up_ne _ _ (by decide)).trans ((congrFun hG 1014).trans gM_14))
            have g_66 := (congrFun eG_52 1015).trans ((va_up_ne _ _ (by decide)).trans ((congrFun hG 1015).trans gM_15))
            have g_67 := (congrFun eG_52 1016).trans ((va_up_ne _ _ (by decide)).trans ((congrFun hG 1016).trans gM_16))
            have g_68 := (congrFun eG_52 1021).trans ((va_up_ne _ _ (by decide)).trans ((congrFun hG 1021).trans gM_21))
            have g_69 := (congrFun eG_52 1022).trans ((va_up_ne _ _ (by decide)).trans ((congrFun hG 1022).trans gM_22))
            have g_70 := (congrFun eG_52 1023).trans ((va_up_ne _ _ (by decide)).trans ((congrFun hG 1023).trans gM_23))
            have g_71 := (congrFun eG_52 1024).trans ((va_up_ne _ _ (by decide)).trans ((congrFun hG 1024).trans gM_24))
            have g_72 := (congrFun eG_52 1025).trans ((va_up_ne _ _ (by decide)).trans ((congrFun hG 1025).trans gM_25))
            have hG : G_52 = gM dA ad A B (va_up S 0 0) sd G0 := by rw [eG_52, hG]; exact gM_uo (va_up S 0 0)
            refine lv_aload_n hx hb d_M_use_61 rfl (lv_at hl 0 rfl) ?_
            refine m_get (v := .int 0) (C := R_M) (T := T_M) (N := 28) hx hb hT in_M hown hC.1 hm 1000 rfl g_53 rfl 0 (by decide) (hT _ k_590) (fun _ h9 => h9) rfl d_M_use_62 ?_
            refine lv_if_le (tgt := 70) hx hb d_M_use_65 (by decide) (fun _ => ?_) (fun c9 => absurd (by decide) c9)
            refine lv_aload_n hx hb d_M_use_70 rfl (lv_at hl 0 rfl) ?_
            refine m_get (v := .ref (ad 1006)) (C := R_M) (T := T_M) (N := 28) hx hb hT in_M hown hC.1 hm 1000 rfl g_53 rfl 6 (by decide) (hT _ k_596) (fun _ h9 => h9) rfl d_M_use_71 ?_
            refine lv_iload_n hx hb d_M_use_74 rfl (lv_at hl 1 rfl) ?_
            refine lv_aload_n hx hb d_M_use_75 rfl (lv_at hl 0 rfl) ?_
            refine m_get (v := .ref (ad 1006)) (C := R_M) (T := T_M) (N := 28) hx hb hT in_M hown hC.1 hm 1000 rfl g_53 rfl 6 (by decide) (hT _ k_596) (fun _ h9 => h9) rfl d_M_use_76 ?_
            refine lv_iload_n hx hb d_M_use_79 rfl (lv_at hl 1 rfl) ?_
            refine m_lald (v := B 6 t) hx hb hC.1 hm 1006 rfl 1 g_57 rfl (by rw [ep]; exact vp_in_nI (by omega) (by decide)) (by rw [ep, nI_clamp (by omega)]) d_M_use_80 ?_
            refine lv_iload_n hx hb d_M_use_81 rfl (lv_at hl 2 rfl) ?_
            refine lv_i2l hx hb d_M_use_82 rfl ?_
            refine lv_topl (fun x_73 ex_73 => ?_)
            refine lv_aload_n hx hb d_M_use_83 rfl (lv_at hl 0 rfl) ?_
            refine m_get (v := .ref (ad 1011)) (C := R_M) (T := T_M) (N := 28) hx hb hT in_M hown hC.1 hm 1000 rfl g_53 rfl 11 (by decide) (hT _ k_601) (fun _ h9 => h9) rfl d_M_use_84 ?_
            refine lv_iconst (v := 4) hx hb d_M_use_87 (by decide) ?_
            refine lv_iload_n hx hb d_M_use_88 rfl (lv_at hl 3 rfl) ?_
            refine lv_imul hx hb d_M_use_89 ?_
            refine lv_topi (fun x_74 ex_74 => ?_)
            refine lv_iload hx hb d_M_use_90 (lv_at hl 4 rfl) ?_
            refine lv_iadd hx hb d_M_use_92 ?_
            refine lv_topi (fun x_75 ex_75 => ?_)
            have hix : x_75 = nI (4 * a + b) := by rw [ex_75, ex_74, ea, eb, show (4 : Int32) = nI 4 from rfl, pk_mul, nI_add]
            refine m_lald (v := B 11 (4 * a + b)) hx hb hC.1 hm 1011 rfl 1 g_62 rfl (by rw [hix]; exact vp_in_nI (by omega) (by decide)) (by rw [hix, nI_clamp (by omega)]) d_M_use_93 ?_
            refine lv_lmul hx hb d_M_use_94 ?_
            refine lv_topl (fun x_76 ex_76 => ?_)
            refine lv_ladd hx hb d_M_use_95 ?_
            refine lv_topl (fun x_77 ex_77 => ?_)
            refine m_last hx hb hC.1 hm 1006 rfl 1 g_57 rfl (by rw [ep]; exact vp_in_nI (by omega) (by decide)) d_M_use_96 (fun H locs hm => ?_)
            rw [show (p0).toNatClampNeg = t by rw [ep, nI_clamp (by omega)]] at hm
            obtain ⟨G_78, eG_78⟩ : ∃ z : mG, z = va_up G_52 1006 (some (.inl ((dA 1), 12, .inr (.inl (vp_updL (B 6) t x_77))))) := ⟨_, rfl⟩
            have hm : mS D mCl (mA ad G s.heap.size) s.heap ad G_78 H locs := by rw [eG_78]; exact hm
            have g_79 := (congrFun eG_78 1000).trans ((va_up_ne _ _ (by decide)).trans g_53)
            have g_80 := (congrFun eG_78 1003).trans ((va_up_ne _ _ (by decide)).trans g_54)
            have g_81 := (congrFun eG_78 1004).trans ((va_up_ne _ _ (by decide)).trans g_55)
            have g_82 := (congrFun eG_78 1005).trans ((va_up_ne _ _ (by decide)).trans g_56)
            have g_83 : G_78 1006 = some (.inl ((dA 1), 12, .inr (.inl (vp_updL (B 6) t x_77)))) := by rw [eG_78, va_up_self]
            have g_84 := (congrFun eG_78 1007).trans ((va_up_ne _ _ (by decide)).trans g_58)
            have g_85 := (congrFun eG_78 1008).trans ((va_up_ne _ _ (by decide)).trans g_59)
            have g_86 := (congrFun eG_78 1009).trans ((va_up_ne _ _ (by decide)).trans g_60)
            have g_87 := (congrFun eG_78 1010).trans ((va_up_ne _ _ (by decide)).trans g_61)
            have g_88 := (congrFun eG_78 1011).trans ((va_up_ne _ _ (by decide)).trans g_62)
            have g_89 := (congrFun eG_78 1012).trans ((va_up_ne _ _ (by decide)).trans g_63)
            have g_90 := (congrFun eG_78 1013).trans ((va_up_ne _ _ (by decide)).trans g_64)
            have g_91 := (congrFun eG_78 1014).trans ((va_up_ne _ _ (by decide)).trans g_65)
            have g_92 := (congrFun eG_78 1015).trans ((va_up_ne _ _ (by decide)).trans g_66)
            have g_93 := (congrFun eG_78 1016).trans ((va_up_ne _ _ (by decide)).trans g_67)
            have g_94 := (congrFun eG_78 1021).trans ((va_up_ne _ _ (by decide)).trans g_68)
            have g_95 := (congrFun eG_78 1022).trans ((va_up_ne _ _ (by decide)).trans g_69)
            have g_96 := (congrFun eG_78 1023).trans ((va_up_ne _ _ (by decide)).trans g_70)
            have g_97 := (congrFun eG_78 1024).trans ((va_up_ne _ _ (by decide)).trans g_71)
            have g_98 := (congrFun eG_78 1025).trans ((va_up_ne _ _ (by decide)).trans g_72)
            have hG : G_78 = gM dA ad A (va_up B 6 (vp_updL (B 6) t x_77)) (va_up S 0 0) sd G0 := by rw [eG_78, hG]; exact gM_u6 _
            refine lv_aload_n hx hb d_M_use_97 rfl (lv_at hl 0 rfl) ?_
            refine m_get (v := .ref (ad 1006)) (C := R_M) (T := T_M) (N := 28) hx hb hT in_M hown hC.1 hm 1000 rfl g_79 rfl 6 (by decide) (hT _ k_596) (fun _ h9 => h9) rfl d_M_use_98 ?_
            refine lv_iload_n hx hb d_M_use_101 rfl (lv_at hl 1 rfl) ?_
            refine lv_aload_n hx hb d_M_use_102 rfl (lv_at hl 0 rfl) ?_
            refine m_get (v := .ref (ad 1006)) (C := R_M) (T := T_M) (N := 28) hx hb hT in_M hown hC.1 hm 1000 rfl g_79 rfl 6 (by decide) (hT _ k_596) (fun _ h9 => h9) rfl d_M_use_103 ?_
            refine lv_iload_n hx hb d_M_use_106 rfl (lv_at hl 1 rfl) ?_
            refine m_lald (v := x_77) hx hb hC.1 hm 1006 rfl 1 g_83 rfl (by rw [ep]; exact vp_in_nI (by omega) (by decide)) (by rw [ep, nI_clamp (by omega), pk_uLs]) d_M_use_107 ?_
            refine lv_ldc2 (v := 1000000000000000) hx hb hown (hT _ k_709) d_M_use_108 ?_
            refine W.lcmp hx hb d_M_use_111 ?_
            refine lv_if_le (tgt := 121) hx hb d_M_use_112 (by decide) (fun c_112 => ?_) (fun c_112 => ?_)
            · refine lv_aload_n hx hb d_M_use_121 rfl (lv_at hl 0 rfl) ?_
              refine m_get (v := .ref (ad 1006)) (C := R_M) (T := T_M) (N := 28) hx hb hT in_M hown hC.1 hm 1000 rfl g_79 rfl 6 (by decide) (hT _ k_596) (fun _ h9 => h9) rfl d_M_use_122 ?_
              refine lv_iload_n hx hb d_M_use_125 rfl (lv_at hl 1 rfl) ?_
              refine m_lald (v := x_77) hx hb hC.1 hm 1006 rfl 1 g_83 rfl (by rw [ep]; exact vp_in_nI (by omega) (by decide)) (by rw [ep, nI_clamp (by omega), pk_uLs]) d_M_use_126 ?_
              refine m_last hx hb hC.1 hm 1006 rfl 1 g_83 rfl (by rw [ep]; exact vp_in_nI (by omega) (by decide)) d_M_use_127 (fun H locs hm => ?_)
              rw [show (p0).toNatClampNeg = t by rw [ep, nI_clamp (by omega)]] at hm
              obtain ⟨G_99, eG_99⟩ : ∃ z : mG, z = va_up G_78 1006 (some (.inl ((dA 1), 12, .inr (.inl (vp_updL (vp_updL (B 6) t x_77) t x_77))))) := ⟨_, rfl⟩
              have hm : mS D mCl (mA ad G s.heap.size) s.heap ad G_99 H locs := by rw [eG_99]; exact hm
              have g_100 := (congrFun eG_99 1000).trans ((va_up_ne _ _ (by decide)).trans g_79)
              have g_101 := (congrFun eG_99 1003).trans ((va_up_ne _ _ (by decide)).trans g_80)
              have g_102 := (congrFun eG_99 1004).trans ((va_up_ne _ _ (by decide)).trans g_81)
              have g_103 := (congrFun eG_99 1005).trans ((va_up_ne _ _ (by decide)).trans g_82)
              have g_104 : G_99 1006 = some (.inl ((dA 1), 12, .inr (.inl (vp_updL (vp_updL (B 6) t x_77) t x_77)))) := by rw [eG_99, va_up_self]
              have g_105 := (congrFun eG_99 1007).trans ((va_up_ne _ _ (by decide)).trans g_84)
              have g_106 := (congrFun eG_99 1008).trans ((va_up_ne _ _ (by decide)).trans g_85)
              have g_107 := (congrFun eG_99 1009).trans ((va_up_ne _ _ (by decide)).trans g_86)
              have g_108 := (congrFun eG_99 1010).trans ((va_up_ne _ _ (by decide)).trans g_87)
              have g_109 := (congrFun eG_99 1011).trans ((va_up_ne _ _ (by decide)).trans g_88)
              have g_110 := (congrFun eG_99 1012).trans ((va_up_ne _ _ (by decide)).trans g_89)
              have g_111 := (congrFun eG_99 1013).trans ((va_up_ne _ _ (by decide)).trans g_90)
              have g_112 := (congrFun eG_99 1014).trans ((va_up_ne _ _ (by decide)).trans g_91)
              have g_113 := (congrFun eG_99 1015).trans ((va_up_ne _ _ (by decide)).trans g_92)
              have g_114 := (congrFun eG_99 1016).trans ((va_up_ne _ _ (by decide)).trans g_93)
              have g_115 := (congrFun eG_99 1021).trans ((va_up_ne _ _ (by decide)).trans g_94)
              have g_116 := (congrFun eG_99 1022).trans ((va_up_ne _ _ (by decide)).trans g_95)
              have g_117 := (congrFun eG_99 1023).trans ((va_up_ne _ _ (by decide)).trans g_96)
              have g_118 := (congrFun eG_99 1024).trans ((va_up_ne _ _ (by decide)).trans g_97)
              have g_119 := (congrFun eG_99 1025).trans ((va_up_ne _ _ (by decide)).trans g_98)
              have hG : G_99 = gM dA ad A (va_up (va_up B 6 (vp_updL (B 6) t x_77)) 6 (vp_updL (vp_updL (B 6) t x_77) t x_77)) (va_up S 0 0) sd G0 := by rw [eG_99, hG]; exact gM_u6 _
              have hwe : x_77 = eWear (B 6 t) (p1.toInt64 * B 11 (4 * a + b)) := by
                unfold eWear
                rw [if_neg (by have h9 := (lg_le _ _).mp c_112; rw [ex_77, ex_76, ex_73] at h9; exact h9), ex_77, ex_76, ex_73]
              refine lv_aload_n hx hb d_M_use_128 rfl (lv_at hl 0 rfl) ?_
              refine m_get (v := .ref (ad 1009)) (C := R_M) (T := T_M) (N := 28) hx hb hT in_M hown hC.1 hm 1000 rfl g_100 rfl 9 (by decide) (hT _ k_599) (fun _ h9 => h9) rfl d_M_use_129 ?_
              refine lv_iload_n hx hb d_M_use_132 rfl (lv_at hl 1 rfl) ?_
              refine lv_dup2_11 hx hb d_M_use_133 rfl rfl ?_
              refine m_iald (v := A 9 t) hx hb hC.1 hm 1009 rfl 0 g_107 rfl (by rw [ep]; exact vp_in_nI (by omega) (by decide)) (by rw [ep, nI_clamp (by omega)]) d_M_use_134 ?_
              refine lv_iconst (v := 1) hx hb d_M_use_135 (by decide) ?_
              refine lv_iadd hx hb d_M_use_136 ?_
              refine lv_topi (fun x_120 ex_120 => ?_)
              refine m_iast hx hb hC.1 hm 1009 rfl 0 g_107 rfl (by rw [ep]; exact vp_in_nI (by omega) (by decide)) d_M_use_137 (fun H locs hm => ?_)
              rw [show (p0).toNatClampNeg = t by rw [ep, nI_clamp (by omega)]] at hm
              obtain ⟨G_121, eG_121⟩ : ∃ z : mG, z = va_up G_99 1009 (some (.inl ((dA 0), 12, .inl (upd (A 9) t x_120)))) := ⟨_, rfl⟩
              have hm : mS D mCl (mA ad G s.heap.size) s.heap ad G_121 H locs := by rw [eG_121]; exact hm
              have g_122 := (congrFun eG_121 1000).trans ((va_up_ne _ _ (by decide)).trans g_100)
              have g_123 := (congrFun eG_121 1003).trans ((va_up_ne _ _ (by decide)).trans g_101)
              have g_124 := (congrFun eG_121 1004).trans ((va_up_ne _ _ (by decide)).trans g_102)
              have g_125 := (congrFun eG_121 1005).trans ((va_up_ne _ _ (by decide)).trans g_103)
              have g_126 := (congrFun eG_121 1006).trans ((va_up_ne _ _ (by decide)).trans g_104)
              have g_127 := (congrFun eG_121 1007).trans ((va_up_ne _ _ (by decide)).trans g_105)
              have g_128 := (congrFun eG_121 1008).trans ((va_up_ne _ _ (by decide)).trans g_106)
              have g_129 : G_121 1009 = some (.inl ((dA 0), 12, .inl (upd (A 9) t x_120))) := by rw [eG_121, va_up_self]
              have g_130 := (congrFun eG_121 1010).trans ((va_up_ne _ _ (by decide)).trans g_108)
              have g_131 := (congrFun eG_121 1011).trans ((va_up_ne _ _ (by decide)).trans g_109)
              have g_132 := (congrFun eG_121 1012).trans ((va_up_ne _ _ (by decide)).trans g_110)
              have g_133 := (congrFun eG_121 1013).trans ((va_up_ne _ _ (by decide)).trans g_111)
              have g_134 := (congrFun eG_121 1014).trans ((va_up_ne _ _ (by decide)).trans g_112)
              have g_135 := (congrFun eG_121 1015).trans ((va_up_ne _ _ (by decide)).trans g_113)
              have g_136 := (congrFun eG_121 1016).trans ((va_up_ne _ _ (by decide)).trans g_114)
              have g_137 := (congrFun eG_121 1021).trans ((va_up_ne _ _ (by decide)).trans g_115)
              have g_138 := (congrFun eG_121 1022).trans ((va_up_ne _ _ (by decide)).trans g_116)
              have g_139 := (congrFun eG_121 1023).trans ((va_up_ne _ _ (by decide)).trans g_117)
              have g_140 := (congrFun eG_121 1024).trans ((va_up_ne _ _ (by decide)).trans g_118)
              have g_141 := (congrFun eG_121 1025).trans ((va_up_ne _ _ (by decide)).trans g_119)
              have hG : G_121 = gM dA ad (va_up A 9 (upd (A 9) t x_120)) (va_up (va_up B 6 (vp_updL (B 6) t x_77)) 6 (vp_updL (vp_updL (B 6) t x_77) t x_77)) (va_up S 0 0) sd G0 := by rw [eG_121, hG]; exact gM_u9 _
              refine lv_aload_n hx hb d_M_use_138 rfl (lv_at hl 0 rfl) ?_
              refine lv_iload_n hx hb d_M_use_139 rfl (lv_at hl 1 rfl) ?_
              refine m_roi (m_runV (As := [.int p0]) (rest := []) ⟨hx, hb, hml, hown, hts⟩ (c_M_isBlunt l D dA ad G_121 H.size (va_up A 9 (upd (A 9) t x_120)) (va_up (va_up B 6 (vp_updL (B 6) t x_77)) 6 (vp_updL (vp_updL (B 6) t x_77) t x_77)) (va_up S 0 0) sd G0 hG p0 t (si t) (by omega) ep (hs t ht2).1 (hs t ht2).2) (cwV 1 hts (gV k_713 k_710 k_712 ks_8 k_4) rfl rfl rfl (by decide +kernel) ⟨Nat.le_of_ble_eq_true rfl, Nat.le_of_ble_eq_true rfl⟩) hm hA hC 1000 rfl g_122 rfl rfl rfl hl.1 rfl (Nat.le_of_ble_eq_true rfl) d_M_use_140 ⟨Nat.le_of_ble_eq_true rfl, Nat.le_of_ble_eq_true rfl⟩) hm hA (fun r_142 H locs w_143 hm => ?_)
              refine lv_if_ne (tgt := 150) hx hb d_M_use_143 (by decide) (fun c_143 => ?_) (fun c_143 => ?_)
              · refine lv_iconst (v := 0) hx hb d_M_use_150 (by decide) ?_
                have hb9 := w_143
                rw [bx_uu, va_up_ne _ _ (show 12 ≠ 6 by decide), va_up_self, updL2, pk_uLs, hwe] at hb9
                exact m_zret (v := 0) hx hb hr rfl hm (Or.inr (Or.inr (Or.inr (⟨t, a, b, ht2, ep, ha4, ea, hb4, eb, (inJ (p := p1) (lo := 0) (hi := 1000000) (a := 0) (b := 1000000) (by decide) (by decide)).mp (by have h9 := bv_ne w_51 c_37; rw [ex_49] at h9; exact h9), c_50, bv0 (fun h => h (bv_ne hb9 c_143)), by rw [hG, bx_uu, updL2, hwe, ex_120]⟩)))) d_M_use_151 hlocks
              · refine lv_iconst (v := 1) hx hb d_M_use_146 (by decide) ?_
                refine lv_goto (tgt := 151) hx hb d_M_use_147 (by decide) ?_
                have hb9 := w_143
                rw [bx_uu, va_up_ne _ _ (show 12 ≠ 6 by decide), va_up_self, updL2, pk_uLs, hwe] at hb9
                exact m_zret (v := 1) hx hb hr rfl hm (Or.inr (Or.inr (Or.inr (⟨t, a, b, ht2, ep, ha4, ea, hb4, eb, (inJ (p := p1) (lo := 0) (hi := 1000000) (a := 0) (b := 1000000) (by decide) (by decide)).mp (by have h9 := bv_ne w_51 c_37; rw [ex_49] at h9; exact h9), c_50, bv1 (bv_eq hb9 c_143), by rw [hG, bx_uu, updL2, hwe, ex_120]⟩)))) d_M_use_151 hlocks
            · refine lv_ldc2 (v := 1000000000000000) hx hb hown (hT _ k_709) d_M_use_115 ?_
              refine lv_goto (tgt := 127) hx hb d_M_use_118 (by decide) ?_
              refine m_last hx hb hC.1 hm 1006 rfl 1 g_83 rfl (by rw [ep]; exact vp_in_nI (by omega) (by decide)) d_M_use_127 (fun H locs hm => ?_)
              rw [show (p0).toNatClampNeg = t by rw [ep, nI_clamp (by omega)]] at hm
              obtain ⟨G_144, eG_144⟩ : ∃ z : mG, z = va_up G_78 1006 (some (.inl ((dA 1), 12, .inr (.inl (vp_updL (vp_updL (B 6) t x_77) t 1000000000000000))))) := ⟨_, rfl⟩
              have hm : mS D mCl (mA ad G s.heap.size) s.heap ad G_144 H locs := by rw [eG_144]; exact hm
              have g_145 := (congrFun eG_144 1000).trans ((va_up_ne _ _ (by decide)).trans g_79)
              have g_146 := (congrFun eG_144 1003).trans ((va_up_ne _ _ (by decide)).trans g_80)
              have g_147 := (congrFun eG_144 1004).trans ((va_up_ne _ _ (by decide)).trans g_81)
              have g_148 := (congrFun eG_144 1005).trans ((va_up_ne _ _ (by decide)).trans g_82)
              have g_149 : G_144 1006 = some (.inl ((dA 1), 12, .inr (.inl (vp_updL (vp_updL (B 6) t x_77) t 1000000000000000)))) := by rw [eG_144, va_up_self]
              have g_150 := (congrFun eG_144 1007).trans ((va_up_ne _ _ (by decide)).trans g_84)
              have g_151 := (congrFun eG_144 1008).trans ((va_up_ne _ _ (by decide)).trans g_85)
              have g_152 := (congrFun eG_144 1009).trans ((va_up_ne _ _ (by decide)).trans g_86)
              have g_153 := (congrFun eG_144 1010).trans ((va_up_ne _ _ (by decide)).trans g_87)
              have g_154 := (congrFun eG_144 1011).trans ((va_up_ne _ _ (by decide)).trans g_88)
              have g_155 := (congrFun eG_144 1012).trans ((va_up_ne _ _ (by decide)).trans g_89)
              have g_156 := (congrFun eG_144 1013).trans ((va_up_ne _ _ (by decide)).trans g_90)
              have g_157 := (congrFun eG_144 1014).trans ((va_up_ne _ _ (by decide)).trans g_91)
              have g_158 := (congrFun eG_144 1015).trans ((va_up_ne _ _ (by decide)).trans g_92)
              have g_159 := (congrFun eG_144 1016).trans ((va_up_ne _ _ (by decide)).trans g_93)
              have g_160 := (congrFun eG_144 1021).trans ((va_up_ne _ _ (by decide)).trans g_94)
              have g_161 := (congrFun eG_144 1022).trans ((va_up_ne _ _ (by decide)).trans g_95)
              have g_162 := (congrFun eG_144 1023).trans ((va_up_ne _ _ (by decide)).trans g_96)
              have g_163 := (congrFun eG_144 1024).trans ((va_up_ne _ _ (by decide)).trans g_97)
              have g_164 := (congrFun eG_144 1025).trans ((va_up_ne _ _ (by decide)).trans g_98)
              have hG : G_144 = gM dA ad A (va_up (va_up B 6 (vp_updL (B 6) t x_77)) 6 (vp_updL (vp_updL (B 6) t x_77) t 1000000000000000)) (va_up S 0 0) sd G0 := by rw [eG_144, hG]; exact gM_u6 _
              have hwe : (1000000000000000 : Int64) = eWear (B 6 t) (p1.toInt64 * B 11 (4 * a + b)) := by
                unfold eWear
                rw [if_pos (by have h9 := c_112; rw [ex_77, ex_76, ex_73] at h9; exact Classical.not_not.mp (fun q => h9 ((lg_le _ _).mpr q)))]
              refine lv_aload_n hx hb d_M_use_128 rfl (lv_at hl 0 rfl) ?_
              refine m_get (v := .ref (ad 1009)) (C := R_M) (T := T_M) (N := 28) hx hb hT in_M hown hC.1 hm 1000 rfl g_145 rfl 9 (by decide) (hT _ k_599) (fun _ h9 => h9) rfl d_M_use_129 ?_
              refine lv_iload_n hx hb d_M_use_132 rfl (lv_at hl 1 rfl) ?_
              refine lv_dup2_11 hx hb d_M_use_133 rfl rfl ?_
              refine m_iald (v := A 9 t) hx hb hC.1 hm 1009 rfl 0 g_152 rfl (by rw [ep]; exact vp_in_nI (by omega) (by decide)) (by rw [ep, nI_clamp (by omega)]) d_M_use_134 ?_
              refine lv_iconst (v := 1) hx hb d_M_use_135 (by decide) ?_
              refine lv_iadd hx hb d_M_use_136 ?_
              refine lv_topi (fun x_165 ex_165 => ?_)
              refine m_iast hx hb hC.1 hm 1009 rfl 0 g_152 rfl (by rw [ep]; exact vp_in_nI (by omega) (by decide)) d_M_use_137 (fun H locs hm => ?_)
              rw [show (p0).toNatClampNeg = t by rw [ep, nI_clamp (by omega)]] at hm
              obtain ⟨G_166, eG_166⟩ : ∃ z : mG, z = va_up G_144 1009 (some (.inl ((dA 0), 12, .inl (upd (A 9) t x_165)))) := ⟨_, rfl⟩
              have hm : mS D mCl (mA ad G s.heap.size) s.heap ad G_166 H locs := by rw [eG_166]; exact hm
              have g_167 := (congrFun eG_166 1000).trans ((va_up_ne _ _ (by decide)).trans g_145)
              have g_168 := (congrFun eG_166 1003).trans ((va_up_ne _ _ (by decide)).trans g_146)
              have g_169 := (congrFun eG_166 1004).trans ((va_up_ne _ _ (by decide)).trans g_147)
              have g_170 := (congrFun eG_166 1005).trans ((va_up_ne _ _ (by decide)).trans g_148)
              have g_171 := (congrFun eG_166 1006).trans ((va_up_ne _ _ (by decide)).trans g_149)
              have g_172 := (congrFun eG_166 1007).trans ((va_up_ne _ _ (by decide)).trans g_150)
              have g_173 := (congrFun eG_166 1008).trans ((va_up_ne _ _ (by decide)).trans g_151)
              have g_174 : G_166 1009 = some (.inl ((dA 0), 12, .inl (upd (A 9) t x_165))) := by rw [eG_166, va_up_self]
              have g_175 := (congrFun eG_166 1010).trans ((va_up_ne _ _ (by decide)).trans g_153)
              have g_176 := (congrFun eG_166 1011).trans ((va_up_ne _ _ (by decide)).trans g_154)
              have g_177 := (congrFun eG_166 1012).trans ((va_up_ne _ _ (by decide)).trans g_155)
              have g_178 := (congrFun eG_166 1013).trans ((va_up_ne _ _ (by decide)).trans g_156)
              have g_179 := (congrFun eG_166 1014).trans ((va_up_ne _ _ (by decide)).trans g_157)
              have g_180 := (congrFun eG_166 1015).trans ((va_up_ne _ _ (by decide)).trans g_158)
              have g_181 := (congrFun eG_166 1016).trans ((va_up_ne _ _ (by decide)).trans g_159)
              have g_182 := (congrFun eG_166 1021).trans ((va_up_ne _ _ (by decide)).trans g_160)
              have g_183 := (congrFun eG_166 1022).trans ((va_up_ne _ _ (by decide)).trans g_161)
              have g_184 := (congrFun eG_166 1023).trans ((va_up_ne _ _ (by decide)).trans g_162)
              have g_185 := (congrFun eG_166 1024).trans ((va_up_ne _ _ (by decide)).trans g_163)
              have g_186 := (congrFun eG_166 1025).trans ((va_up_ne _ _ (by decide)).trans g_164)
              have hG : G_166 = gM dA ad (va_up A 9 (upd (A 9) t x_165)) (va_up (va_up B 6 (vp_updL (B 6) t x_77)) 6 (vp_updL (vp_updL (B 6) t x_77) t 1000000000000000)) (va_up S 0 0) sd G0 := by rw [eG_166, hG]; exact gM_u9 _
              refine lv_aload_n hx hb d_M_use_138 rfl (lv_at hl 0 rfl) ?_
              refine lv_iload_n hx hb d_M_use_139 rfl (lv_at hl 1 rfl) ?_
              refine m_roi (m_runV (As := [.int p0]) (rest := []) ⟨hx, hb, hml, hown, hts⟩ (c_M_isBlunt l D dA ad G_166 H.size (va_up A 9 (upd (A 9) t x_165)) (va_up (va_up B 6 (vp_updL (B 6) t x_77)) 6 (vp_updL (vp_updL (B 6) t x_77) t 1000000000000000)) (va_up S 0 0) sd G0 hG p0 t (si t) (by omega) ep (hs t ht2).1 (hs t ht2).2) (cwV 1 hts (gV k_713 k_710 k_712 ks_8 k_4) rfl rfl rfl (by decide +kernel) ⟨Nat.le_of_ble_eq_true rfl, Nat.le_of_ble_eq_true rfl⟩) hm hA hC 1000 rfl g_167 rfl rfl rfl hl.1 rfl (Nat.le_of_ble_eq_true rfl) d_M_use_140 ⟨Nat.le_of_ble_eq_true rfl, Nat.le_of_ble_eq_true rfl⟩) hm hA (fun r_187 H locs w_188 hm => ?_)
              refine lv_if_ne (tgt := 150) hx hb d_M_use_143 (by decide) (fun c_143 => ?_) (fun c_143 => ?_)
              · refine lv_iconst (v := 0) hx hb d_M_use_150 (by decide) ?_
                have hb9 := w_188
                rw [bx_uu, va_up_ne _ _ (show 12 ≠ 6 by decide), va_up_self, updL2, pk_uLs, hwe] at hb9
                exact m_zret (v := 0) hx hb hr rfl hm (Or.inr (Or.inr (Or.inr (⟨t, a, b, ht2, ep, ha4, ea, hb4, eb, (inJ (p := p1) (lo := 0) (hi := 1000000) (a := 0) (b := 1000000) (by decide) (by decide)).mp (by have h9 := bv_ne w_51 c_37; rw [ex_49] at h9; exact h9), c_50, bv0 (fun h => h (bv_ne hb9 c_143)), by rw [hG, bx_uu, updL2, hwe, ex_165]⟩)))) d_M_use_151 hlocks
              · refine lv_iconst (v := 1) hx hb d_M_use_146 (by decide) ?_
                refine lv_goto (tgt := 151) hx hb d_M_use_147 (by decide) ?_
                have hb9 := w_188
                rw [bx_uu, va_up_ne _ _ (show 12 ≠ 6 by decide), va_up_self, updL2, pk_uLs, hwe] at hb9
                exact m_zret (v := 1) hx hb hr rfl hm (Or.inr (Or.inr (Or.inr (⟨t, a, b, ht2, ep, ha4, ea, hb4, eb, (inJ (p := p1) (lo := 0) (hi := 1000000) (a := 0) (b := 1000000) (by decide) (by decide)).mp (by have h9 := bv_ne w_51 c_37; rw [ex_49] at h9; exact h9), c_50, bv1 (bv_eq hb9 c_143), by rw [hG, bx_uu, updL2, hwe, ex_165]⟩)))) d_M_use_151 hlocks
          · refine lv_iconst (v := 3) hx hb d_M_use_53 (by decide) ?_
            refine lv_goto (tgt := 58) hx hb d_M_use_54 (by decide) ?_
            refine m_put (v := .int 3) (ty := .int) (C := R_M) (T := T_M) (N := 28) hx hb hT in_M t_M tok_M nm_M hown hC.1 hm 1000 rfl ((congrFun hG 1000).trans gM_o) rfl 0 (by decide) (hT _ k_590) (fun _ h9 => h9) rfl (by decide +kernel) rfl rfl (Nat.le_of_ble_eq_true rfl) d_M_use_58 (fun H locs hm => ?_)
            obtain ⟨G_189, eG_189⟩ : ∃ z : mG, z = va_up G 1000 (some (.inr (6, [.int 3, .long sd, .int (S 2), .ref (ad 1003), .ref (ad 1004), .ref (ad 1005), .ref (ad 1006), .ref (ad 1007), .ref (ad 1008), .ref (ad 1009), .ref (ad 1010), .ref (ad 1011), .ref (ad 1012), .ref (ad 1013), .ref (ad 1014), .ref (ad 1015), .ref (ad 1016), .int (S 17), .int (S 18), .int (S 19), .int (S 20), .ref (ad 1021), .ref (ad 1022), .ref (ad 1023), .ref (ad 1024), .ref (ad 1025), .int (S 26), .int (S 27)]))) := ⟨_, rfl⟩
            have hm : mS D mCl (mA ad G s.heap.size) s.heap ad G_189 H locs := by rw [eG_189]; exact hm
            have g_190 : G_189 1000 = some (.inr (6, [.int 3, .long sd, .int (S 2), .ref (ad 1003), .ref (ad 1004), .ref (ad 1005), .ref (ad 1006), .ref (ad 1007), .ref (ad 1008), .ref (ad 1009), .ref (ad 1010), .ref (ad 1011), .ref (ad 1012), .ref (ad 1013), .ref (ad 1014), .ref (ad 1015), .ref (ad 1016), .int (S 17), .int (S 18), .int (S 19), .int (S 20), .ref (ad 1021), .ref (ad 1022), .ref (ad 1023), .ref (ad 1024), .ref (ad 1025), .int (S 26), .int (S 27)])) := by rw [eG_189, va_up_self]
            have g_191 := (congrFun eG_189 1003).trans ((va_up_ne _ _ (by decide)).trans ((congrFun hG 1003).trans gM_3))
            have g_192 := (congrFun eG_189 1004).trans ((va_up_ne _ _ (by decide)).trans ((congrFun hG 1004).trans gM_4))
            have g_193 := (congrFun eG_189 1005).trans ((va_up_ne _ _ (by decide)).trans ((congrFun hG 1005).trans gM_5))
            have g_194 := (congrFun eG_189 1006).trans ((va_up_ne _ _ (by decide)).trans ((congrFun hG 1006).trans gM_6))
            have g_195 := (congrFun eG_189 1007).trans ((va_up_ne _ _ (by decide)).trans ((congrFun hG 1007).trans gM_7))
            have g_196 := (congrFun eG_189 1008).trans ((va_up_ne _ _ (by decide)).trans ((congrFun hG 1008).trans gM_8))
            have g_197 := (congrFun eG_189 1009).trans ((va_up_ne _ _ (by decide)).trans ((congrFun hG 1009).trans gM_9))
            have g_198 := (congrFun eG_189 1010).trans ((va_up_ne _ _ (by decide)).trans ((congrFun hG 1010).trans gM_10))
            have g_199 := (congrFun eG_189 1011).trans ((va_up_ne _ _ (by decide)).trans ((congrFun hG 1011).trans gM_11))
            have g_200 := (congrFun eG_189 1012).trans ((va_up_ne _ _ (by decide)).trans ((congrFun hG 1012).trans gM_12))
            have g_201 := (congrFun eG_189 1013).trans ((va_up_ne _ _ (by decide)).trans ((congrFun hG 1013).trans gM_13))
            have g_202 := (congrFun eG_189 1014).trans ((va_up_ne _ _ (by decide)).trans ((congrFun hG 1014).trans gM_14))
            have g_203 := (congrFun eG_189 1015).trans ((va_up_ne _ _ (by decide)).trans ((congrFun hG 1015).trans gM_15))
            have g_204 := (congrFun eG_189 1016).trans ((va_up_ne _ _ (by decide)).trans ((congrFun hG 1016).trans gM_16))
            have g_205 := (congrFun eG_189 1021).trans ((va_up_ne _ _ (by decide)).trans ((congrFun hG 1021).trans gM_21))
            have g_206 := (congrFun eG_189 1022).trans ((va_up_ne _ _ (by decide)).trans ((congrFun hG 1022).trans gM_22))
            have g_207 := (congrFun eG_189 1023).trans ((va_up_ne _ _ (by decide)).trans ((congrFun hG 1023).trans gM_23))
            have g_208 := (congrFun eG_189 1024).trans ((va_up_ne _ _ (by decide)).trans ((congrFun hG 1024).trans gM_24))
            have g_209 := (congrFun eG_189 1025).trans ((va_up_ne _ _ (by decide)).trans ((congrFun hG 1025).trans gM_25))
            have hG : G_189 = gM dA ad A B (va_up S 0 3) sd G0 := by rw [eG_189, hG]; exact gM_uo (va_up S 0 3)
            refine lv_aload_n hx hb d_M_use_61 rfl (lv_at hl 0 rfl) ?_
            refine m_get (v := .int 3) (C := R_M) (T := T_M) (N := 28) hx hb hT in_M hown hC.1 hm 1000 rfl g_190 rfl 0 (by decide) (hT _ k_590) (fun _ h9 => h9) rfl d_M_use_62 ?_
            refine lv_if_le (tgt := 70) hx hb d_M_use_65 (by decide) (fun c9 => absurd c9 (by decide)) (fun _ => ?_)
            refine lv_iconst (v := 0) hx hb d_M_use_68 (by decide) ?_
            exact m_zret (v := 0) hx hb hr rfl hm (Or.inr (Or.inr (Or.inl ⟨⟨t, ht2, ep, c_50⟩, ⟨a, ha4, ea⟩, ⟨b, hb4, eb⟩, (inJ (p := p1) (lo := 0) (hi := 1000000) (a := 0) (b := 1000000) (by decide) (by decide)).mp (by have h9 := bv_ne w_51 c_37; rw [ex_49] at h9; exact h9), by rw [hG]⟩))) d_M_use_69 hlocks
        · refine lv_iconst (v := 2) hx hb d_M_use_40 (by decide) ?_
          refine lv_goto (tgt := 58) hx hb d_M_use_41 (by decide) ?_
          refine m_put (v := .int 2) (ty := .int) (C := R_M) (T := T_M) (N := 28) hx hb hT in_M t_M tok_M nm_M hown hC.1 hm 1000 rfl ((congrFun hG 1000).trans gM_o) rfl 0 (by decide) (hT _ k_590) (fun _ h9 => h9) rfl (by decide +kernel) rfl rfl (Nat.le_of_ble_eq_true rfl) d_M_use_58 (fun H locs hm => ?_)
          obtain ⟨G_210, eG_210⟩ : ∃ z : mG, z = va_up G 1000 (some (.inr (6, [.int 2, .long sd, .int (S 2), .ref (ad 1003), .ref (ad 1004), .ref (ad 1005), .ref (ad 1006), .ref (ad 1007), .ref (ad 1008), .ref (ad 1009), .ref (ad 1010), .ref (ad 1011), .ref (ad 1012), .ref (ad 1013), .ref (ad 1014), .ref (ad 1015), .ref (ad 1016), .int (S 17), .int (S 18), .int (S 19), .int (S 20), .ref (ad 1021), .ref (ad 1022), .ref (ad 1023), .ref (ad 1024), .ref (ad 1025), .int (S 26), .int (S 27)]))) := ⟨_, rfl⟩
          have hm : mS D mCl (mA ad G s.heap.size) s.heap ad G_210 H locs := by rw [eG_210]; exact hm
          have g_211 : G_210 1000 = some (.inr (6, [.int 2, .long sd, .int (S 2), .ref (ad 1003), .ref (ad 1004), .ref (ad 1005), .ref (ad 1006), .ref (ad 1007), .ref (ad 1008), .ref (ad 1009), .ref (ad 1010), .ref (ad 1011), .ref (ad 1012), .ref (ad 1013), .ref (ad 1014), .ref (ad 1015), .ref (ad 1016), .int (S 17), .int (S 18), .int (S 19), .int (S 20), .ref (ad 1021), .ref (ad 1022), .ref (ad 1023), .ref (ad 1024), .ref (ad 1025), .int (S 26), .int (S 27)])) := by rw [eG_210, va_up_self]
          have g_212 := (congrFun eG_210 1003).trans ((va_up_ne _ _ (by decide)).trans ((congrFun hG 1003).trans gM_3))
          have g_213 := (congrFun eG_210 1004).trans ((va_up_ne _ _ (by decide)).trans ((congrFun hG 1004).trans gM_4))
          have g_214 := (congrFun eG_210 1005).trans ((va_up_ne _ _ (by decide)).trans ((congrFun hG 1005).trans gM_5))
          have g_215 := (congrFun eG_210 1006).trans ((va_up_ne _ _ (by decide)).trans ((congrFun hG 1006).trans gM_6))
          have g_216 := (congrFun eG_210 1007).trans ((va_up_ne _ _ (by decide)).trans ((congrFun hG 1007).trans gM_7))
          have g_217 := (congrFun eG_210 1008).trans ((va_up_ne _ _ (by decide)).trans ((congrFun hG 1008).trans gM_8))
          have g_218 := (congrFun eG_210 1009).trans ((va_up_ne _ _ (by decide)).trans ((congrFun hG 1009).trans gM_9))
          have g_219 := (congrFun eG_210 1010).trans ((va_up_ne _ _ (by decide)).trans ((congrFun hG 1010).trans gM_10))
          have g_220 := (congrFun eG_210 1011).trans ((va_up_ne _ _ (by decide)).trans ((congrFun hG 1011).trans gM_11))
          have g_221 := (congrFun eG_210 1012).trans ((va_up_ne _ _ (by decide)).trans ((congrFun hG 1012).trans gM_12))
          have g_222 := (congrFun eG_210 1013).trans ((va_up_ne _ _ (by decide)).trans ((congrFun hG 1013).trans gM_13))
          have g_223 := (congrFun eG_210 1014).trans ((va_up_ne _ _ (by decide)).trans ((congrFun hG 1014).trans gM_14))
          have g_224 := (congrFun eG_210 1015).trans ((va_up_ne _ _ (by decide)).trans ((congrFun hG 1015).trans gM_15))
          have g_225 := (congrFun eG_210 1016).trans ((va_up_ne _ _ (by decide)).trans ((congrFun hG 1016).trans gM_16))
          have g_226 := (congrFun eG_210 1021).trans ((va_up_ne _ _ (by decide)).trans ((congrFun hG 1021).trans gM_21))
          have g_227 := (congrFun eG_210 1022).trans ((va_up_ne _ _ (by decide)).trans ((congrFun hG 1022).trans gM_22))
          have g_228 := (congrFun eG_210 1023).trans ((va_up_ne _ _ (by decide)).trans ((congrFun hG 1023).trans gM_23))
          have g_229 := (congrFun eG_210 1024).trans ((va_up_ne _ _ (by decide)).trans ((congrFun hG 1024).trans gM_24))
          have g_230 := (congrFun eG_210 1025).trans ((va_up_ne _ _ (by decide)).trans ((congrFun hG 1025).trans gM_25))
          have hG : G_210 = gM dA ad A B (va_up S 0 2) sd G0 := by rw [eG_210, hG]; exact gM_uo (va_up S 0 2)
          refine lv_aload_n hx hb d_M_use_61 rfl (lv_at hl 0 rfl) ?_
          refine m_get (v := .int 2) (C := R_M) (T := T_M) (N := 28) hx hb hT in_M hown hC.1 hm 1000 rfl g_211 rfl 0 (by decide) (hT _ k_590) (fun _ h9 => h9) rfl d_M_use_62 ?_
          refine lv_if_le (tgt := 70) hx hb d_M_use_65 (by decide) (fun c9 => absurd c9 (by decide)) (fun _ => ?_)
          refine lv_iconst (v := 0) hx hb d_M_use_68 (by decide) ?_
          exact m_zret (v := 0) hx hb hr rfl hm (Or.inr (Or.inl ⟨⟨Classical.not_not.mp (bv_eq w_2 c_6), bv_ne w_25 c_13, bv_ne w_48 c_21⟩, (Classical.not_not.mp (fun q => bv_eq w_51 c_37 (by rw [ex_49]; exact (inJ (p := p1) (lo := 0) (hi := 1000000) (a := 0) (b := 1000000) (by decide) (by decide)).mpr q))), by rw [hG]⟩)) d_M_use_69 hlocks
      · refine lv_iconst (v := 1) hx hb d_M_use_24 (by decide) ?_
        refine lv_goto (tgt := 58) hx hb d_M_use_25 (by decide) ?_
        refine m_put (v := .int 1) (ty := .int) (C := R_M) (T := T_M) (N := 28) hx hb hT in_M t_M tok_M nm_M hown hC.1 hm 1000 rfl ((congrFun hG 1000).trans gM_o) rfl 0 (by decide) (hT _ k_590) (fun _ h9 => h9) rfl (by decide +kernel) rfl rfl (Nat.le_of_ble_eq_true rfl) d_M_use_58 (fun H locs hm => ?_)
        obtain ⟨G_231, eG_231⟩ : ∃ z : mG, z = va_up G 1000 (some (.inr (6, [.int 1, .long sd, .int (S 2), .ref (ad 1003), .ref (ad 1004), .ref (ad 1005), .ref (ad 1006), .ref (ad 1007), .ref (ad 1008), .ref (ad 1009), .ref (ad 1010), .ref (ad 1011), .ref (ad 1012), .ref (ad 1013), .ref (ad 1014), .ref (ad 1015), .ref (ad 1016), .int (S 17), .int (S 18), .int (S 19), .int (S 20), .ref (ad 1021), .ref (ad 1022), .ref (ad 1023), .ref (ad 1024), .ref (ad 1025), .int (S 26), .int (S 27)]))) := ⟨_, rfl⟩
        have hm : mS D mCl (mA ad G s.heap.size) s.heap ad G_231 H locs := by rw [eG_231]; exact hm
        have g_232 : G_231 1000 = some (.inr (6, [.int 1, .long sd, .int (S 2), .ref (ad 1003), .ref (ad 1004), .ref (ad 1005), .ref (ad 1006), .ref (ad 1007), .ref (ad 1008), .ref (ad 1009), .ref (ad 1010), .ref (ad 1011), .ref (ad 1012), .ref (ad 1013), .ref (ad 1014), .ref (ad 1015), .ref (ad 1016), .int (S 17), .int (S 18), .int (S 19), .int (S 20), .ref (ad 1021), .ref (ad 1022), .ref (ad 1023), .ref (ad 1024), .ref (ad 1025), .int (S 26), .int (S 27)])) := by rw [eG_231, va_up_self]
        have g_233 := (congrFun eG_231 1003).trans ((va_up_ne _ _ (by decide)).trans ((congrFun hG 1003).trans gM_3))
        have g_234 := (congrFun eG_231 1004).trans ((va_up_ne _ _ (by decide)).trans ((congrFun hG 1004).trans gM_4))
        have g_235 := (congrFun eG_231 1005).trans ((va_up_ne _ _ (by decide)).trans ((congrFun hG 1005).trans gM_5))
        have g_236 := (congrFun eG_231 1006).trans ((va_up_ne _ _ (by decide)).trans ((congrFun hG 1006).trans gM_6))
        have g_237 := (congrFun eG_231 1007).trans ((va_up_ne _ _ (by decide)).trans ((congrFun hG 1007).trans gM_7))
        have g_238 := (congrFun eG_231 1008).trans ((va_up_ne _ _ (by decide)).trans ((congrFun hG 1008).trans gM_8))
        have g_239 := (congrFun eG_231 1009).trans ((va_up_ne _ _ (by decide)).trans ((congrFun hG 1009).trans gM_9))
        have g_240 := (congrFun eG_231 1010).trans ((va_up_ne _ _ (by decide)).trans ((congrFun hG 1010).trans gM_10))
        have g_241 := (congrFun eG_231 1011).trans ((va_up_ne _ _ (by decide)).trans ((congrFun hG 1011).trans gM_11))
        have g_242 := (congrFun eG_231 1012).trans ((va_up_ne _ _ (by decide)).trans ((congrFun hG 1012).trans gM_12))
        have g_243 := (congrFun eG_231 1013).trans ((va_up_ne _ _ (by decide)).trans ((congrFun hG 1013).trans gM_13))
        have g_244 := (congrFun eG_231 1014).trans ((va_up_ne _ _ (by decide)).trans ((congrFun hG 1014).trans gM_14))
        have g_245 := (congrFun eG_231 1015).trans ((va_up_ne _ _ (by decide)).trans ((congrFun hG 1015).trans gM_15))
        have g_246 := (congrFun eG_231 1016).trans ((va_up_ne _ _ (by decide)).trans ((congrFun hG 1016).trans gM_16))
        have g_247 := (congrFun eG_231 1021).trans ((va_up_ne _ _ (by decide)).trans ((congrFun hG 1021).trans gM_21))
        have g_248 := (congrFun eG_231 1022).trans ((va_up_ne _ _ (by decide)).trans ((congrFun hG 1022).trans gM_22))
        have g_249 := (congrFun eG_231 1023).trans ((va_up_ne _ _ (by decide)).trans ((congrFun hG 1023).trans gM_23))
        have g_250 := (congrFun eG_231 1024).trans ((va_up_ne _ _ (by decide)).trans ((congrFun hG 1024).trans gM_24))
        have g_251 := (congrFun eG_231 1025).trans ((va_up_ne _ _ (by decide)).trans ((congrFun hG 1025).trans gM_25))
        have hG : G_231 = gM dA ad A B (va_up S 0 1) sd G0 := by rw [eG_231, hG]; exact gM_uo (va_up S 0 1)
        refine lv_aload_n hx hb d_M_use_61 rfl (lv_at hl 0 rfl) ?_
        refine m_get (v := .int 1) (C := R_M) (T := T_M) (N := 28) hx hb hT in_M hown hC.1 hm 1000 rfl g_232 rfl 0 (by decide) (hT _ k_590) (fun _ h9 => h9) rfl d_M_use_62 ?_
        refine lv_if_le (tgt := 70) hx hb d_M_use_65 (by decide) (fun c9 => absurd c9 (by decide)) (fun _ => ?_)
        refine lv_iconst (v := 0) hx hb d_M_use_68 (by decide) ?_
        exact m_zret (v := 0) hx hb hr rfl hm (Or.inl ⟨fun h => bv_eq w_48 c_21 h.2.2, by rw [hG]⟩) d_M_use_69 hlocks

set_option maxHeartbeats 4000000 in
set_option maxRecDepth 100000 in
theorem c_M_about (l : Launch) (D : va_G) (dA : Nat → ClassId) (ad : Nat → Nat) (G : mG) (sz : Nat) (A : Nat → Nat → Int32) (B : Nat → Nat → Int64) (S : Nat → Int32) (sd : Int64) (G0 : mG) (hG : G = gM dA ad A B S sd G0) (tc : Nat) (hS : S 2 = nI tc) (ht : tc ≤ 12) (si : Nat → Nat) (hs : ∀ i, i < tc → si i < 4 ∧ A 3 i = nI (si i)) (p0 p1 : Int32) : Met l y_M_about (.code y_M_about b_M_about 3 (some .long) :: mBig) ({ frames := 1, cells := 0, slots := 0, locals := 25 }) (mPc [.ref (ad 1000), .int p0, .int p1] D mCl (mTys dA) mTx ad G sz) (mQl (fun (rv : Int64) (u : mU) => ((¬ ((∃ i, i < tc ∧ p0 = nI i) ∧ ¬ (p1 < 0 ∨ 5 < p1)) ∧ u = (ad, gM dA ad A B (va_up S 0 1) sd G0)) ∨ (∃ t, t < tc ∧ p0 = nI t ∧ ((p1 = 0 ∧ rv = B 6 t) ∨ (p1 = 1 ∧ rv = (A 4 t).toInt64) ∨ (p1 = 2 ∧ rv = (nI (si t)).toInt64) ∨ (p1 = 3 ∧ rv = ((if A 7 t = 0 then 0 else 1) + (if B 12 (si t) < B 6 t then 2 else 0) + (if A 8 t = 0 then 0 else 4) : Int32).toInt64) ∨ (p1 = 4 ∧ rv = (A 9 t).toInt64) ∨ (p1 = 5 ∧ rv = (A 10 t).toInt64)) ∧ u = (ad, gM dA ad A B (va_up S 0 0) sd G0)))) D mCl ad G sz) 0 0 (mA ad G sz) := by
  refine Met.ofW (cc := b_M_about) (maxL := 3) (ret := (some .long)) (by decide) rfl ?_
  intro p e s m args below meth c s₁ BB hml hv
  obtain ⟨rfl, hsz, hw0, hC⟩ := hv
  have hx := BB.exec
  have hb := BB.bytes
  have hr := BB.returns
  have hts := atoms_spec (ws := .code y_M_about b_M_about 3 (some .long) :: mBig) BB.pre
  have hT : ∀ w ∈ mBig, w.before _ s = true := fun w h => hts w (List.mem_cons_of_mem _ h)
  have hown : s.vm.findClass "EdgeWearModel" = some m.cls := findClass_of_methodNamed BB.named
  have hlocks := BB.notSynchronized
  subst hsz
  have hm := mS.start hw0
  have hA : ∀ q : Nat, s.heap.size ≤ q → mA ad G s.heap.size q := fun q h => Or.inr h
  have hl := lv_entry ([.ref (ad 1000), .int p0, .int p1]) (n := 3) (Nat.le_of_ble_eq_true rfl)
  rw [lg_entry_eq]
  generalize (lg_sl ([.ref (ad 1000), .int p0, .int p1]) ++ List.replicate (3 - (lg_sl ([.ref (ad 1000), .int p0, .int p1])).length) Slot.unset).toArray = ls at hl ⊢
  have hl : lv_has ls 3 [(0, .ref (ad 1000)), (1, .int p0), (2, .int p1)] := hl
  refine lv_aload_n hx hb d_M_about_0 rfl (lv_at hl 0 rfl) ?_
  refine lv_aload_n hx hb d_M_about_1 rfl (lv_at hl 0 rfl) ?_
  refine lv_iload_n hx hb d_M_about_2 rfl (lv_at hl 1 rfl) ?_
  refine m_roi (m_runV (As := [.int p0]) (rest := [.ref (ad 1000)]) ⟨hx, hb, hml, hown, hts⟩ (c_M_noTool l D dA ad G s.heap.size A B S sd G0 hG tc hS ht p0) (cwV 1 hts (gV k_708 k_705 k_707 ks_7 k_4) rfl rfl rfl (by decide +kernel) ⟨Nat.le_of_ble_eq_true rfl, Nat.le_of_ble_eq_true rfl⟩) hm hA hC 1000 rfl ((congrFun hG 1000).trans gM_o) rfl rfl rfl hl.1 rfl (Nat.le_of_ble_eq_true rfl) d_M_about_3 ⟨Nat.le_of_ble_eq_true rfl, Nat.le_of_ble_eq_true rfl⟩) hm hA (fun r_1 H locs w_2 hm => ?_)
  refine lv_if_ne (tgt := 21) hx hb d_M_about_6 (by decide) (fun c_6 => ?_) (fun c_6 => ?_)
  · refine lv_iconst (v := 1) hx hb d_M_about_21 (by decide) ?_
    refine lv_goto (tgt := 26) hx hb d_M_about_22 (by decide) ?_
    refine m_put (v := .int 1) (ty := .int) (C := R_M) (T := T_M) (N := 28) hx hb hT in_M t_M tok_M nm_M hown hC.1 hm 1000 rfl ((congrFun hG 1000).trans gM_o) rfl 0 (by decide) (hT _ k_590) (fun _ h9 => h9) rfl (by decide +kernel) rfl rfl (Nat.le_of_ble_eq_true rfl) d_M_about_26 (fun H locs hm => ?_)
    obtain ⟨G_3, eG_3⟩ : ∃ z : mG, z = va_up G 1000 (some (.inr (6, [.int 1, .long sd, .int (S 2), .ref (ad 1003), .ref (ad 1004), .ref (ad 1005), .ref (ad 1006), .ref (ad 1007), .ref (ad 1008), .ref (ad 1009), .ref (ad 1010), .ref (ad 1011), .ref (ad 1012), .ref (ad 1013), .ref (ad 1014), .ref (ad 1015), .ref (ad 1016), .int (S 17), .int (S 18), .int (S 19), .int (S 20), .ref (ad 1021), .ref (ad 1022), .ref (ad 1023), .ref (ad 1024), .ref (ad 1025), .int (S 26), .int (S 27)]))) := ⟨_, rfl⟩
    have hm : mS D mCl (mA ad G s.heap.size) s.heap ad G_3 H locs := by rw [eG_3]; exact hm
    have g_4 : G_3 1000 = some (.inr (6, [.int 1, .long sd, .int (S 2), .ref (ad 1003), .ref (ad 1004), .ref (ad 1005), .ref (ad 1006), .ref (ad 1007), .ref (ad 1008), .ref (ad 1009), .ref (ad 1010), .ref (ad 1011), .ref (ad 1012), .ref (ad 1013), .ref (ad 1014), .ref (ad 1015), .ref (ad 1016), .int (S 17), .int (S 18), .int (S 19), .int (S 20), .ref (ad 1021), .ref (ad 1022), .ref (ad 1023), .ref (ad 1024), .ref (ad 1025), .int (S 26), .int (S 27)])) := by rw [eG_3, va_up_self]
    have g_5 := (congrFun eG_3 1003).trans ((va_up_ne _ _ (by decide)).trans ((congrFun hG 1003).trans gM_3))
    have g_6 := (congrFun eG_3 1004).trans ((va_up_ne _ _ (by decide)).trans ((congrFun hG 1004).trans gM_4))
    have g_7 := (congrFun eG_3 1005).trans ((va_up_ne _ _ (by decide)).trans ((congrFun hG 1005).trans gM_5))
    have g_8 := (congrFun eG_3 1006).trans ((va_up_ne _ _ (by decide)).trans ((congrFun hG 1006).trans gM_6))
    have g_9 := (congrFun eG_3 1007).trans ((va_up_ne _ _ (by decide)).trans ((congrFun hG 1007).trans gM_7))
    have g_10 := (congrFun eG_3 1008).trans ((va_up_ne _ _ (by decide)).trans ((congrFun hG 1008).trans gM_8))
    have g_11 := (congrFun eG_3 1009).trans ((va_up_ne _ _ (by decide)).trans ((congrFun hG 1009).trans gM_9))
    have g_12 := (congrFun eG_3 1010).trans ((va_up_ne _ _ (by decide)).trans ((congrFun hG 1010).trans gM_10))
    have g_13 := (congrFun eG_3 1011).trans ((va_up_ne _ _ (by decide)).trans ((congrFun hG 1011).trans gM_11))
    have g_14 := (congrFun eG_3 1012).trans ((va_up_ne _ _ (by decide)).trans ((congrFun hG 1012).trans gM_12))
    have g_15 := (congrFun eG_3 1013).trans ((va_up_ne _ _ (by decide)).trans ((congrFun hG 1013).trans gM_13))
    have g_16 := (congrFun eG_3 1014).trans ((va_up_ne _ _ (by decide)).trans ((congrFun hG 1014).trans gM_14))
    have g_17 := (congrFun eG_3 1015).trans ((va_up_ne _ _ (by decide)).trans ((congrFun hG 1015).trans gM_15))
    have g_18 := (congrFun eG_3 1016).trans ((va_up_ne _ _ (by decide)).trans ((congrFun hG 1016).trans gM_16))
    have g_19 := (congrFun eG_3 1021).trans ((va_up_ne _ _ (by decide)).trans ((congrFun hG 1021).trans gM_21))
    have g_20 := (congrFun eG_3 1022).trans ((va_up_ne _ _ (by decide)).trans ((congrFun hG 1022).trans gM_22))
    have g_21 := (congrFun eG_3 1023).trans ((va_up_ne _ _ (by decide)).trans ((congrFun hG 1023).trans gM_23))
    have g_22 := (congrFun eG_3 1024).trans ((va_up_ne _ _ (by decide)).trans ((congrFun hG 1024).trans gM_24))
    have g_23 := (congrFun eG_3 1025).trans ((va_up_ne _ _ (by decide)).trans ((congrFun hG 1025).trans gM_25))
    have hG : G_3 = gM dA ad A B (va_up S 0 1) sd G0 := by rw [eG_3, hG]; exact gM_uo (va_up S 0 1)
    refine lv_aload_n hx hb d_M_about_29 rfl (lv_at hl 0 rfl) ?_
    refine m_get (v := .int 1) (C := R_M) (T := T_M) (N := 28) hx hb hT in_M hown hC.1 hm 1000 rfl g_4 rfl 0 (by decide) (hT _ k_590) (fun _ h9 => h9) rfl d_M_about_30 ?_
    refine lv_if_le (tgt := 38) hx hb d_M_about_33 (by decide) (fun c9 => absurd c9 (by decide)) (fun _ => ?_)
    refine lv_lconst (v := 0) hx hb d_M_about_36 (by decide) ?_
    exact m_lret (v := 0) hx hb hr hm (Or.inl ⟨fun h => bv_ne w_2 c_6 h.1, by rw [hG]⟩) d_M_about_37 hlocks
  · refine lv_iload_n hx hb d_M_about_9 rfl (lv_at hl 2 rfl) ?_
    refine lv_i2l hx hb d_M_about_10 rfl ?_
    refine lv_topl (fun x_24 ex_24 => ?_)
    refine lv_lconst (v := 0) hx hb d_M_about_11 (by decide) ?_
    refine lv_ldc2 (v := 5) hx hb hown (hT _ k_722) d_M_about_12 ?_
    refine m_roi (m_runS (As := [.long x_24, .long 0, .long 5]) (rest := [.ref (ad 1000)]) ⟨hx, hb, hml, hown, hts⟩ (c_M_isIn l D dA ad G H.size x_24 0 5) (va_cwS 3 hts (gS k_690 k_688 k_689 k_4) rfl rfl rfl (by decide +kernel) ⟨Nat.le_of_ble_eq_true rfl, Nat.le_of_ble_eq_true rfl⟩) hm hA hC rfl hl.1 rfl (Nat.le_of_ble_eq_true rfl) d_M_about_15 ⟨Nat.le_of_ble_eq_true rfl, Nat.le_of_ble_eq_true rfl⟩) hm hA (fun r_25 H locs w_26 hm => ?_)
    refine lv_if_ne (tgt := 25) hx hb d_M_about_18 (by decide) (fun c_18 => ?_) (fun c_18 => ?_)
    · refine lv_iconst (v := 0) hx hb d_M_about_25 (by decide) ?_
      refine m_put (v := .int 0) (ty := .int) (C := R_M) (T := T_M) (N := 28) hx hb hT in_M t_M tok_M nm_M hown hC.1 hm 1000 rfl ((congrFun hG 1000).trans gM_o) rfl 0 (by decide) (hT _ k_590) (fun _ h9 => h9) rfl (by decide +kernel) rfl rfl (Nat.le_of_ble_eq_true rfl) d_M_about_26 (fun H locs hm => ?_)
      obtain ⟨G_27, eG_27⟩ : ∃ z : mG, z = va_up G 1000 (some (.inr (6, [.int 0, .long sd, .int (S 2), .ref (ad 1003), .ref (ad 1004), .ref (ad 1005), .ref (ad 1006), .ref (ad 1007), .ref (ad 1008), .ref (ad 1009), .ref (ad 1010), .ref (ad 1011), .ref (ad 1012), .ref (ad 1013), .ref (ad 1014), .ref (ad 1015), .ref (ad 1016), .int (S 17), .int (S 18), .int (S 19), .int (S 20), .ref (ad 1021), .ref (ad 1022), .ref (ad 1023), .ref (ad 1024), .ref (ad 1025), .int (S 26), .int (S 27)]))) := ⟨_, rfl⟩
      have hm : mS D mCl (mA ad G s.heap.size) s.heap ad G_27 H locs := by rw [eG_27]; exact hm
      have g_28 : G_27 1000 = some (.inr (6, [.int 0, .long sd, .int (S 2), .ref (ad 1003), .ref (ad 1004), .ref (ad 1005), .ref (ad 1006), .ref (ad 1007), .ref (ad 1008), .ref (ad 1009), .ref (ad 1010), .ref (ad 1011), .ref (ad 1012), .ref (ad 1013), .ref (ad 1014), .ref (ad 1015), .ref (ad 1016), .int (S 17), .int (S 18), .int (S 19), .int (S 20), .ref (ad 1021), .ref (ad 1022), .ref (ad 1023), .ref (ad 1024), .ref (ad 1025), .int (S 26), .int (S 27)])) := by rw [eG_27, va_up_self]
      have g_29 := (congrFun eG_27 1003).trans ((va_up_ne _ _ (by decide)).trans ((congrFun hG 1003).trans gM_3))
      have g_30 := (congrFun eG_27 1004).trans ((va_up_ne _ _ (by decide)).trans ((congrFun hG 1004).trans gM_4))
      have g_31 := (congrFun eG_27 1005).trans ((va_up_ne _ _ (by decide)).trans ((congrFun hG 1005).trans gM_5))
      have g_32 := (congrFun eG_27 1006).trans ((va_up_ne _ _ (by decide)).trans ((congrFun hG 1006).trans gM_6))
      have g_33 := (congrFun eG_27 1007).trans ((va_up_ne _ _ (by decide)).trans ((congrFun hG 1007).trans gM_7))
      have g_34 := (congrFun eG_27 1008).trans ((va_up_ne _ _ (by decide)).trans ((congrFun hG 1008).trans gM_8))
      have g_35 := (congrFun eG_27 1009).trans ((va_up_ne _ _ (by decide)).trans ((congrFun hG 1009).trans gM_9))
      have g_36 := (congrFun eG_27 1010).trans ((va_up_ne _ _ (by decide)).trans ((congrFun hG 1010).trans gM_10))
      have g_37 := (congrFun eG_27 1011).trans ((va_up_ne _ _ (by decide)).trans ((congrFun hG 1011).trans gM_11))
      have g_38 := (congrFun eG_27 1012).trans ((va_up_ne _ _ (by decide)).trans ((congrFun hG 1012).trans gM_12))
      have g_39 := (congrFun eG_27 1013).trans ((va_up_ne _ _ (by decide)).trans ((congrFun hG 1013).trans gM_13))
      have g_40 := (congrFun eG_27 1014).trans ((va_up_ne _ _ (by decide)).trans ((congrFun hG 1014).trans gM_14))
      have g_41 := (congrFun eG_27 1015).trans ((va_up_ne _ _ (by decide)).trans ((congrFun hG 1015).trans gM_15))
      have g_42 := (congrFun eG_27 1016).trans ((va_up_ne _ _ (by decide)).trans ((congrFun hG 1016).trans gM_16))
      have g_43 := (congrFun eG_27 1021).trans ((va_up_ne _ _ (by decide)).trans ((congrFun hG 1021).trans gM_21))
      have g_44 := (congrFun eG_27 1022).trans ((va_up_ne _ _ (by decide)).trans ((congrFun hG 1022).trans gM_22))
      have g_45 := (congrFun eG_27 1023).trans ((va_up_ne _ _ (by decide)).trans ((congrFun hG 1023).trans gM_23))
      have g_46 := (congrFun eG_27 1024).trans ((va_up_ne _ _ (by decide)).trans ((congrFun hG 1024).trans gM_24))
      have g_47 := (congrFun eG_27 1025).trans ((va_up_ne _ _ (by decide)).trans ((congrFun hG 1025).trans gM_25))
      have hG : G_27 = gM dA ad A B (va_up S 0 0) sd G0 := by rw [eG_27, hG]; exact gM_uo (va_up S 0 0)
      refine lv_aload_n hx hb d_M_about_29 rfl (lv_at hl 0 rfl) ?_
      refine m_get (v := .int 0) (C := R_M) (T := T_M) (N := 28) hx hb hT in_M hown hC.1 hm 1000 rfl g_28 rfl 0 (by decide) (hT _ k_590) (fun _ h9 => h9) rfl d_M_about_30 ?_
      refine lv_if_le (tgt := 38) hx hb d_M_about_33 (by decide) (fun _ => ?_) (fun c9 => absurd (by decide) c9)
      obtain ⟨t, ht2, ep⟩ := Classical.not_not.mp (bv_eq w_2 c_6)
      have hin : ¬ (p1 < 0 ∨ 5 < p1) := (inJ (p := p1) (lo := 0) (hi := 5) (a := 0) (b := 5) (by decide) (by decide)).mp (by have h9 := bv_ne w_26 c_18; rw [ex_24] at h9; exact h9)
      refine lv_iload_n hx hb d_M_about_38 rfl (lv_at hl 2 rfl) ?_
      refine lv_iconst (v := 3) hx hb d_M_about_39 (by decide) ?_
      refine lv_icmp_ge (tgt := 79) hx hb d_M_about_40 (by decide) (fun c_40 => ?_) (fun c_40 => ?_)
      · refine lv_iload_n hx hb d_M_about_79 rfl (lv_at hl 2 rfl) ?_
        refine lv_iconst (v := 3) hx hb d_M_about_80 (by decide) ?_
        refine lv_icmp_ne (tgt := 131) hx hb d_M_about_81 (by decide) (fun c_81 => ?_) (fun c_81 => ?_)
        · refine lv_iload_n hx hb d_M_about_131 rfl (lv_at hl 2 rfl) ?_
          refine lv_iconst (v := 4) hx hb d_M_about_132 (by decide) ?_
          refine lv_icmp_ne (tgt := 146) hx hb d_M_about_133 (by decide) (fun c_133 => ?_) (fun c_133 => ?_)
          · refine lv_aload_n hx hb d_M_about_146 rfl (lv_at hl 0 rfl) ?_
            refine m_get (v := .ref (ad 1010)) (C := R_M) (T := T_M) (N := 28) hx hb hT in_M hown hC.1 hm 1000 rfl g_28 rfl 10 (by decide) (hT _ k_600) (fun _ h9 => h9) rfl d_M_about_147 ?_
            refine lv_iload_n hx hb d_M_about_150 rfl (lv_at hl 1 rfl) ?_
            refine m_iald (v := A 10 t) hx hb hC.1 hm 1010 rfl 0 g_36 rfl (by rw [ep]; exact vp_in_nI (by omega) (by decide)) (by rw [ep, nI_clamp (by omega)]) d_M_about_151 ?_
            refine lv_i2l hx hb d_M_about_152 rfl ?_
            refine lv_topl (fun x_48 ex_48 => ?_)
            exact m_lret (v := x_48) hx hb hr hm (Or.inr (⟨t, ht2, ep, Or.inr (Or.inr (Or.inr (Or.inr (Or.inr (⟨p5_of hin c_40 c_81 c_133, ex_48⟩))))), by rw [hG]⟩)) d_M_about_153 hlocks
          · refine lv_aload_n hx hb d_M_about_136 rfl (lv_at hl 0 rfl) ?_
            refine m_get (v := .ref (ad 1009)) (C := R_M) (T := T_M) (N := 28) hx hb hT in_M hown hC.1 hm 1000 rfl g_28 rfl 9 (by decide) (hT _ k_599) (fun _ h9 => h9) rfl d_M_about_137 ?_
            refine lv_iload_n hx hb d_M_about_140 rfl (lv_at hl 1 rfl) ?_
            refine m_iald (v := A 9 t) hx hb hC.1 hm 1009 rfl 0 g_35 rfl (by rw [ep]; exact vp_in_nI (by omega) (by decide)) (by rw [ep, nI_clamp (by omega)]) d_M_about_141 ?_
            refine lv_i2l hx hb d_M_about_142 rfl ?_
            refine lv_topl (fun x_49 ex_49 => ?_)
            refine lv_goto (tgt := 153) hx hb d_M_about_143 (by decide) ?_
            exact m_lret (v := x_49) hx hb hr hm (Or.inr (⟨t, ht2, ep, Or.inr (Or.inr (Or.inr (Or.inr (Or.inl ⟨c_133, ex_49⟩)))), by rw [hG]⟩)) d_M_about_153 hlocks
        · refine lv_aload_n hx hb d_M_about_84 rfl (lv_at hl 0 rfl) ?_
          refine m_get (v := .ref (ad 1007)) (C := R_M) (T := T_M) (N := 28) hx hb hT in_M hown hC.1 hm 1000 rfl g_28 rfl 7 (by decide) (hT _ k_597) (fun _ h9 => h9) rfl d_M_about_85 ?_
          refine lv_iload_n hx hb d_M_about_88 rfl (lv_at hl 1 rfl) ?_
          refine m_zald (v := A 7 t) hx hb hC.1 hm 1007 rfl 2 g_33 rfl (by rw [ep]; exact vp_in_nI (by omega) (by decide)) (by rw [ep, nI_clamp (by omega)]) d_M_about_89 ?_
          refine lv_if_eq (tgt := 97) hx hb d_M_about_90 (by decide) (fun c_90 => ?_) (fun c_90 => ?_)
          · refine lv_iconst (v := 0) hx hb d_M_about_97 (by decide) ?_
            refine lv_aload_n hx hb d_M_about_98 rfl (lv_at hl 0 rfl) ?_
            refine lv_iload_n hx hb d_M_about_99 rfl (lv_at hl 1 rfl) ?_
            refine m_roi (m_runV (As := [.int p0]) (rest := [.int 0]) ⟨hx, hb, hml, hown, hts⟩ (c_M_isBlunt l D dA ad G_27 H.size A B (va_up S 0 0) sd G0 hG p0 t (si t) (by omega) ep (hs t ht2).1 (hs t ht2).2) (cwV 1 hts (gV k_713 k_710 k_712 ks_8 k_4) rfl rfl rfl (by decide +kernel) ⟨Nat.le_of_ble_eq_true rfl, Nat.le_of_ble_eq_true rfl⟩) hm hA hC 1000 rfl g_28 rfl rfl rfl hl.1 rfl (Nat.le_of_ble_eq_true rfl) d_M_about_100 ⟨Nat.le_of_ble_eq_true rfl, Nat.le_of_ble_eq_true rfl⟩) hm hA (fun r_50 H locs w_51 hm => ?_)
            refine lv_if_eq (tgt := 110) hx hb d_M_about_103 (by decide) (fun c_103 => ?_) (fun c_103 => ?_)
            · refine lv_iconst (v := 0) hx hb d_M_about_110 (by decide) ?_
              refine lv_iadd hx hb d_M_about_111 ?_
              refine lv_topi (fun x_52 ex_52 => ?_)
              refine lv_aload_n hx hb d_M_about_112 rfl (lv_at hl 0 rfl) ?_
              refine m_get (v := .ref (ad 1008)) (C := R_M) (T := T_M) (N := 28) hx hb hT in_M hown hC.1 hm 1000 rfl g_28 rfl 8 (by decide) (hT _ k_598) (fun _ h9 => h9) rfl d_M_about_113 ?_
              refine lv_iload_n hx hb d_M_about_116 rfl (lv_at hl 1 rfl) ?_
              refine m_zald (v := A 8 t) hx hb hC.1 hm 1008 rfl 2 g_34 rfl (by rw [ep]; exact vp_in_nI (by omega) (by decide)) (by rw [ep, nI_clamp (by omega)]) d_M_about_117 ?_
              refine lv_if_eq (tgt := 125) hx hb d_M_about_118 (by decide) (fun c_118 => ?_) (fun c_118 => ?_)
              · refine lv_iconst (v := 0) hx hb d_M_about_125 (by decide) ?_
                refine lv_iadd hx hb d_M_about_126 ?_
                refine lv_topi (fun x_53 ex_53 => ?_)
                refine lv_i2l hx hb d_M_about_127 rfl ?_
                refine lv_topl (fun x_54 ex_54 => ?_)
                refine lv_goto (tgt := 153) hx hb d_M_about_128 (by decide) ?_
                exact m_lret (v := x_54) hx hb hr hm (Or.inr (⟨t, ht2, ep, Or.inr (Or.inr (Or.inr (Or.inl ⟨c_81, by rw [ex_54, ex_53, ex_52, if_pos c_90, if_neg (bv_eq w_51 c_103), if_pos c_118]⟩))), by rw [hG]⟩)) d_M_about_153 hlocks
              · refine lv_iconst (v := 4) hx hb d_M_about_121 (by decide) ?_
                refine lv_goto (tgt := 126) hx hb d_M_about_122 (by decide) ?_
                refine lv_iadd hx hb d_M_about_126 ?_
                refine lv_topi (fun x_55 ex_55 => ?_)
                refine lv_i2l hx hb d_M_about_127 rfl ?_
                refine lv_topl (fun x_56 ex_56 => ?_)
                refine lv_goto (tgt := 153) hx hb d_M_about_128 (by decide) ?_
                exact m_lret (v := x_56) hx hb hr hm (Or.inr (⟨t, ht2, ep, Or.inr (Or.inr (Or.inr (Or.inl ⟨c_81, by rw [ex_56, ex_55, ex_52, if_pos c_90, if_neg (bv_eq w_51 c_103), if_neg c_118]⟩))), by rw [hG]⟩)) d_M_about_153 hlocks
            · refine lv_iconst (v := 2) hx hb d_M_about_106 (by decide) ?_
              refine lv_goto (tgt := 111) hx hb d_M_about_107 (by decide) ?_
              refine lv_iadd hx hb d_M_about_111 ?_
              refine lv_topi (fun x_57 ex_57 => ?_)
              refine lv_aload_n hx hb d_M_about_112 rfl (lv_at hl 0 rfl) ?_
              refine m_get (v := .ref (ad 1008)) (C := R_M) (T := T_M) (N := 28) hx hb hT in_M hown hC.1 hm 1000 rfl g_28 rfl 8 (by decide) (hT _ k_598) (fun _ h9 => h9) rfl d_M_about_113 ?_
              refine lv_iload_n hx hb d_M_about_116 rfl (lv_at hl 1 rfl) ?_
              refine m_zald (v := A 8 t) hx hb hC.1 hm 1008 rfl 2 g_34 rfl (by rw [ep]; exact vp_in_nI (by omega) (by decide)) (by rw [ep, nI_clamp (by omega)]) d_M_about_117 ?_
              refine lv_if_eq (tgt := 125) hx hb d_M_about_118 (by decide) (fun c_118 => ?_) (fun c_118 => ?_)
              · refine lv_iconst (v := 0) hx hb d_M_about_125 (by decide) ?_
                refine lv_iadd hx hb d_M_about_126 ?_
                refine lv_topi (fun x_58 ex_58 => ?_)
                refine lv_i2l hx hb d_M_about_127 rfl ?_
                refine lv_topl (fun x_59 ex_59 => ?_)
                refine lv_goto (tgt := 153) hx hb d_M_about_128 (by decide) ?_
                exact m_lret (v := x_59) hx hb hr hm (Or.inr (⟨t, ht2, ep, Or.inr (Or.inr (Or.inr (Or.inl ⟨c_81, by rw [ex_59, ex_58, ex_57, if_pos c_90, if_pos (bv_ne w_51 c_103), if_pos c_118]⟩))), by rw [hG]⟩)) d_M_about_153 hlocks
              · refine lv_iconst (v := 4) hx hb d_M_about_121 (by decide) ?_
                refine lv_goto (tgt := 126) hx hb d_M_about_122 (by decide) ?_
                refine lv_iadd hx hb d_M_about_126 ?_
                refine lv_topi (fun x_60 ex_60 => ?_)
                refine lv_i2l hx hb d_M_about_127 rfl ?_
                refine lv_topl (fun x_61 ex_61 => ?_)
                refine lv_goto (tgt := 153) hx hb d_M_about_128 (by decide) ?_
                exact m_lret (v := x_61) hx hb hr hm (Or.inr (⟨t, ht2, ep, Or.inr (Or.inr (Or.inr (Or.inl ⟨c_81, by rw [ex_61, ex_60, ex_57, if_pos c_90, if_pos (bv_ne w_51 c_103), if_neg c_118]⟩))), by rw [hG]⟩)) d_M_about_153 hlocks
          · refine lv_iconst (v := 1) hx hb d_M_about_93 (by decide) ?_
            refine lv_goto (tgt := 98) hx hb d_M_about_94 (by decide) ?_
            refine lv_aload_n hx hb d_M_about_98 rfl (lv_at hl 0 rfl) ?_
            refine lv_iload_n hx hb d_M_about_99 rfl (lv_at hl 1 rfl) ?_
            refine m_roi (m_runV (As := [.int p0]) (rest := [.int 1]) ⟨hx, hb, hml, hown, hts⟩ (c_M_isBlunt l D dA ad G_27 H.size A B (va_up S 0 0) sd G0 hG p0 t (si t) (by omega) ep (hs t ht2).1 (hs t ht2).2) (cwV 1 hts (gV k_713 k_710 k_712 ks_8 k_4) rfl rfl rfl (by decide +kernel) ⟨Nat.le_of_ble_eq_true rfl, Nat.le_of_ble_eq_true rfl⟩) hm hA hC 1000 rfl g_28 rfl rfl rfl hl.1 rfl (Nat.le_of_ble_eq_true rfl) d_M_about_100 ⟨Nat.le_of_ble_eq_true rfl, Nat.le_of_ble_eq_true rfl⟩) hm hA (fun r_62 H locs w_63 hm => ?_)
            refine lv_if_eq (tgt := 110) hx hb d_M_about_103 (by decide) (fun c_103 => ?_) (fun c_103 => ?_)
            · refine lv_iconst (v := 0) hx hb d_M_about_110 (by decide) ?_
              refine lv_iadd hx hb d_M_about_111 ?_
              refine lv_topi (fun x_64 ex_64 => ?_)
              refine lv_aload_n hx hb d_M_about_112 rfl (lv_at hl 0 rfl) ?_
              refine m_get (v := .ref (ad 1008)) (C := R_M) (T := T_M) (N := 28) hx hb hT in_M hown hC.1 hm 1000 rfl g_28 rfl 8 (by decide) (hT _ k_598) (fun _ h9 => h9) rfl d_M_about_113 ?_
              refine lv_iload_n hx hb d_M_about_116 rfl (lv_at hl 1 rfl) ?_
              refine m_zald (v := A 8 t) hx hb hC.1 hm 1008 rfl 2 g_34 rfl (by rw [ep]; exact vp_in_nI (by omega) (by decide)) (by rw [ep, nI_clamp (by omega)]) d_M_about_117 ?_
              refine lv_if_eq (tgt := 125) hx hb d_M_about_118 (by decide) (fun c_118 => ?_) (fun c_118 => ?_)
              · refine lv_iconst (v := 0) hx hb d_M_about_125 (by decide) ?_
                refine lv_iadd hx hb d_M_about_126 ?_
                refine lv_topi (fun x_65 ex_65 => ?_)
                refine lv_i2l hx hb d_M_about_127 rfl ?_
                refine lv_topl (fun x_66 ex_66 => ?_)
                refine lv_goto (tgt := 153) hx hb d_M_about_128 (by decide) ?_
                exact m_lret (v := x_66) hx hb hr hm (Or.inr (⟨t, ht2, ep, Or.inr (Or.inr (Or.inr (Or.inl ⟨c_81, by rw [ex_66, ex_65, ex_64, if_neg c_90, if_neg (bv_eq w_63 c_103), if_pos c_118]⟩))), by rw [hG]⟩)) d_M_about_153 hlocks
              · refine lv_iconst (v := 4) hx hb d_M_about_121 (by decide) ?_
                refine lv_goto (tgt := 126) hx hb d_M_about_122 (by decide) ?_
                refine lv_iadd hx hb d_M_about_126 ?_
                refine lv_topi (fun x_67 ex_67 => ?_)
                refine lv_i2l hx hb d_M_about_127 rfl ?_
                refine lv_topl (fun x_68 ex_68 => ?_)
                refine lv_goto (tgt := 153) hx hb d_M_about_128 (by decide) ?_
                exact m_lret (v := x_68) hx hb hr hm (Or.inr (⟨t, ht2, ep, Or.inr (Or.inr (Or.inr (Or.inl ⟨c_81, by rw [ex_68, ex_67, ex_64, if_neg c_90, if_neg (bv_eq w_63 c_103), if_neg c_118]⟩))), by rw [hG]⟩)) d_M_about_153 hlocks
            · refine lv_iconst (v := 2) hx hb d_M_about_106 (by decide) ?_
              refine lv_goto (tgt := 111) hx hb d_M_about_107 (by decide) ?_
              refine lv_iadd hx hb d_M_about_111 ?_
              refine lv_topi (fun x_69 ex_69 => ?_)
              refine lv_aload_n hx hb d_M_about_112 rfl (lv_at hl 0 rfl) ?_
              refine m_get (v := .ref (ad 1008)) (C := R_M) (T := T_M) (N := 28) hx hb hT in_M hown hC.1 hm 1000 rfl g_28 rfl 8 (by decide) (hT _ k_598) (fun _ h9 => h9) rfl d_M_about_113 ?_
              refine lv_iload_n hx hb d_M_about_116 rfl (lv_at hl 1 rfl) ?_
              refine m_zald (v := A 8 t) hx hb hC.1 hm 1008 rfl 2 g_34 rfl (by rw [ep]; exact vp_in_nI (by omega) (by decide)) (by rw [ep, nI_clamp (by omega)]) d_M_about_117 ?_
              refine lv_if_eq (tgt := 125) hx hb d_M_about_118 (by decide) (fun c_118 => ?_) (fun c_118 => ?_)
              · refine lv_iconst (v := 0) hx hb d_M_about_125 (by decide) ?_
                refine lv_iadd hx hb d_M_about_126 ?_
                refine lv_topi (fun x_70 ex_70 => ?_)
                refine lv_i2l hx hb d_M_about_127 rfl ?_
                refine lv_topl (fun x_71 ex_71 => ?_)
                refine lv_goto (tgt := 153) hx hb d_M_about_128 (by decide) ?_
                exact m_lret (v := x_71) hx hb hr hm (Or.inr (⟨t, ht2, ep, Or.inr (Or.inr (Or.inr (Or.inl ⟨c_81, by rw [ex_71, ex_70, ex_69, if_neg c_90, if_pos (bv_ne w_63 c_103), if_pos c_118]⟩))), by rw [hG]⟩)) d_M_about_153 hlocks
              · refine lv_iconst (v := 4) hx hb d_M_about_121 (by decide) ?_
                refine lv_goto (tgt := 126) hx hb d_M_about_122 (by decide) ?_
                refine lv_iadd hx hb d_M_about_126 ?_
                refine lv_topi (fun x_72 ex_72 => ?_)
                refine lv_i2l hx hb d_M_about_127 rfl ?_
                refine lv_topl (fun x_73 ex_73 => ?_)
                refine lv_goto (tgt := 153) hx hb d_M_about_128 (by decide) ?_
                exact m_lret (v := x_73) hx hb hr hm (Or.inr (⟨t, ht2, ep, Or.inr (Or.inr (Or.inr (Or.inl ⟨c_81, by rw [ex_73, ex_72, ex_69, if_neg c_90, if_pos (bv_ne w_63 c_103), if_neg c_118]⟩))), by rw [hG]⟩)) d_M_about_153 hlocks
      · refine lv_iload_n hx hb d_M_about_43 rfl (lv_at hl 2 rfl) ?_
        refine lv_if_ne (tgt := 56) hx hb d_M_about_44 (by decide) (fun c_44 => ?_) (fun c_44 => ?_)
        · refine lv_iload_n hx hb d_M_about_56 rfl (lv_at hl 2 rfl) ?_
          refine lv_iconst (v := 1) hx hb d_M_about_57 (by decide) ?_
          refine lv_icmp_ne (tgt := 71) hx hb d_M_about_58 (by decide) (fun c_58 => ?_) (fun c_58 => ?_)
          · refine lv_aload_n hx hb d_M_about_71 rfl (lv_at hl 0 rfl) ?_
            refine m_get (v := .ref (ad 1003)) (C := R_M) (T := T_M) (N := 28) hx hb hT in_M hown hC.1 hm 1000 rfl g_28 rfl 3 (by decide) (hT _ k_593) (fun _ h9 => h9) rfl d_M_about_72 ?_
            refine lv_iload_n hx hb d_M_about_75 rfl (lv_at hl 1 rfl) ?_
            refine m_iald (v := A 3 t) hx hb hC.1 hm 1003 rfl 0 g_29 rfl (by rw [ep]; exact vp_in_nI (by omega) (by decide)) (by rw [ep, nI_clamp (by omega)]) d_M_about_76 ?_
            refine lv_i2l hx hb d_M_about_77 rfl ?_
            refine lv_topl (fun x_74 ex_74 => ?_)
            exact m_lret (v := x_74) hx hb hr hm (Or.inr (⟨t, ht2, ep, Or.inr (Or.inr (Or.inl ⟨p2_of hin c_40 c_44 c_58, by rw [ex_74, (hs t ht2).2]⟩)), by rw [hG]⟩)) d_M_about_78 hlocks
          · refine lv_aload_n hx hb d_M_about_61 rfl (lv_at hl 0 rfl) ?_
            refine m_get (v := .ref (ad 1004)) (C := R_M) (T := T_M) (N := 28) hx hb hT in_M hown hC.1 hm 1000 rfl g_28 rfl 4 (by decide) (hT _ k_594) (fun _ h9 => h9) rfl d_M_about_62 ?_
            refine lv_iload_n hx hb d_M_about_65 rfl (lv_at hl 1 rfl) ?_
            refine m_iald (v := A 4 t) hx hb hC.1 hm 1004 rfl 0 g_30 rfl (by rw [ep]; exact vp_in_nI (by omega) (by decide)) (by rw [ep, nI_clamp (by omega)]) d_M_about_66 ?_
            refine lv_i2l hx hb d_M_about_67 rfl ?_
            refine lv_topl (fun x_75 ex_75 => ?_)
            refine lv_goto (tgt := 78) hx hb d_M_about_68 (by decide) ?_
            exact m_lret (v := x_75) hx hb hr hm (Or.inr (⟨t, ht2, ep, Or.inr (Or.inl ⟨c_58, ex_75⟩), by rw [hG]⟩)) d_M_about_78 hlocks
        · refine lv_aload_n hx hb d_M_about_47 rfl (lv_at hl 0 rfl) ?_
          refine m_get (v := .ref (ad 1006)) (C := R_M) (T := T_M) (N := 28) hx hb hT in_M hown hC.1 hm 1000 rfl g_28 rfl 6 (by decide) (hT _ k_596) (fun _ h9 => h9) rfl d_M_about_48 ?_
          refine lv_iload_n hx hb d_M_about_51 rfl (lv_at hl 1 rfl) ?_
          refine m_lald (v := B 6 t) hx hb hC.1 hm 1006 rfl 1 g_32 rfl (by rw [ep]; exact vp_in_nI (by omega) (by decide)) (by rw [ep, nI_clamp (by omega)]) d_M_about_52 ?_
          refine lv_goto (tgt := 78) hx hb d_M_about_53 (by decide) ?_
          exact m_lret (v := B 6 t) hx hb hr hm (Or.inr (⟨t, ht2, ep, Or.inl ⟨c_44, rfl⟩, by rw [hG]⟩)) d_M_about_78 hlocks
    · refine lv_iconst (v := 1) hx hb d_M_about_21 (by decide) ?_
      refine lv_goto (tgt := 26) hx hb d_M_about_22 (by decide) ?_
      refine m_put (v := .int 1) (ty := .int) (C := R_M) (T := T_M) (N := 28) hx hb hT in_M t_M tok_M nm_M hown hC.1 hm 1000 rfl ((congrFun hG 1000).trans gM_o) rfl 0 (by decide) (hT _ k_590) (fun _ h9 => h9) rfl (by decide +kernel) rfl rfl (Nat.le_of_ble_eq_true rfl) d_M_about_26 (fun H locs hm => ?_)
      obtain ⟨G_76, eG_76⟩ : ∃ z : mG, z = va_up G 1000 (some (.inr (6, [.int 1, .long sd, .int (S 2), .ref (ad 1003), .ref (ad 1004), .ref (ad 1005), .ref (ad 1006), .ref (ad 1007), .ref (ad 1008), .ref (ad 1009), .ref (ad 1010), .ref (ad 1011), .ref (ad 1012), .ref (ad 1013), .ref (ad 1014), .ref (ad 1015), .ref (ad 1016), .int (S 17), .int (S 18), .int (S 19), .int (S 20), .ref (ad 1021), .ref (ad 1022), .ref (ad 1023), .ref (ad 1024), .ref (ad 1025), .int (S 26), .int (S 27)]))) := ⟨_, rfl⟩
      have hm : mS D mCl (mA ad G s.heap.size) s.heap ad G_76 H locs := by rw [eG_76]; exact hm
      have g_77 : G_76 1000 = some (.inr (6, [.int 1, .long sd, .int (S 2), .ref (ad 1003), .ref (ad 1004), .ref (ad 1005), .ref (ad 1006), .ref (ad 1007), .ref (ad 1008), .ref (ad 1009), .ref (ad 1010), .ref (ad 1011), .ref (ad 1012), .ref (ad 1013), .ref (ad 1014), .ref (ad 1015), .ref (ad 1016), .int (S 17), .int (S 18), .int (S 19), .int (S 20), .ref (ad 1021), .ref (ad 1022), .ref (ad 1023), .ref (ad 1024), .ref (ad 1025), .int (S 26), .int (S 27)])) := by rw [eG_76, va_up_self]
      have g_78 := (congrFun eG_76 1003).trans ((va_up_ne _ _ (by decide)).trans ((congrFun hG 1003).trans gM_3))
      have g_79 := (congrFun eG_76 1004).trans ((va_up_ne _ _ (by decide)).trans ((congrFun hG 1004).trans gM_4))
      have g_80 := (congrFun eG_76 1005).trans ((va_up_ne _ _ (by decide)).trans ((congrFun hG 1005).trans gM_5))
      have g_81 := (congrFun eG_76 1006).trans ((va_up_ne _ _ (by decide)).trans ((congrFun hG 1006).trans gM_6))
      have g_82 := (congrFun eG_76 1007).trans ((va_up_ne _ _ (by decide)).trans ((congrFun hG 1007).trans gM_7))
      have g_83 := (congrFun eG_76 1008).trans ((va_up_ne _ _ (by decide)).trans ((congrFun hG 1008).trans gM_8))
      have g_84 := (congrFun eG_76 1009).trans ((va_up_ne _ _ (by decide)).trans ((congrFun hG 1009).trans gM_9))
      have g_85 := (congrFun eG_76 1010).trans ((va_up_ne _ _ (by decide)).trans ((congrFun hG 1010).trans gM_10))
      have g_86 := (congrFun eG_76 1011).trans ((va_up_ne _ _ (by decide)).trans ((congrFun hG 1011).trans gM_11))
      have g_87 := (congrFun eG_76 1012).trans ((va_up_ne _ _ (by decide)).trans ((congrFun hG 1012).trans gM_12))
      have g_88 := (congrFun eG_76 1013).trans ((va_up_ne _ _ (by decide)).trans ((congrFun hG 1013).trans gM_13))
      have g_89 := (congrFun eG_76 1014).trans ((va_up_ne _ _ (by decide)).trans ((congrFun hG 1014).trans gM_14))
      have g_90 := (congrFun eG_76 1015).trans ((va_up_ne _ _ (by decide)).trans ((congrFun hG 1015).trans gM_15))
      have g_91 := (congrFun eG_76 1016).trans ((va_up_ne _ _ (by decide)).trans ((congrFun hG 1016).trans gM_16))
      have g_92 := (congrFun eG_76 1021).trans ((va_up_ne _ _ (by decide)).trans ((congrFun hG 1021).trans gM_21))
      have g_93 := (congrFun eG_76 1022).trans ((va_up_ne _ _ (by decide)).trans ((congrFun hG 1022).trans gM_22))
      have g_94 := (congrFun eG_76 1023).trans ((va_up_ne _ _ (by decide)).trans ((congrFun hG 1023).trans gM_23))
      have g_95 := (congrFun eG_76 1024).trans ((va_up_ne _ _ (by decide)).trans ((congrFun hG 1024).trans gM_24))
      have g_96 := (congrFun eG_76 1025).trans ((va_up_ne _ _ (by decide)).trans ((congrFun hG 1025).trans gM_25))
      have hG : G_76 = gM dA ad A B (va_up S 0 1) sd G0 := by rw [eG_76, hG]; exact gM_uo (va_up S 0 1)
      refine lv_aload_n hx hb d_M_about_29 rfl (lv_at hl 0 rfl) ?_
      refine m_get (v := .int 1) (C := R_M) (T := T_M) (N := 28) hx hb hT in_M hown hC.1 hm 1000 rfl g_77 rfl 0 (by decide) (hT _ k_590) (fun _ h9 => h9) rfl d_M_about_30 ?_
      refine lv_if_le (tgt := 38) hx hb d_M_about_33 (by decide) (fun c9 => absurd c9 (by decide)) (fun _ => ?_)
      refine lv_lconst (v := 0) hx hb d_M_about_36 (by decide) ?_
      exact m_lret (v := 0) hx hb hr hm (Or.inl ⟨fun h => h.2 (Classical.not_not.mp (fun q => bv_eq w_26 c_18 (by rw [ex_24]; exact (inJ (p := p1) (lo := 0) (hi := 5) (a := 0) (b := 5) (by decide) (by decide)).mpr q))), by rw [hG]⟩) d_M_about_37 hlocks

set_option maxHeartbeats 4000000 in
set_option maxRecDepth 100000 in
theorem c_M_isSpare (l : Launch) (D : va_G) (dA : Nat → ClassId) (ad : Nat → Nat) (G : mG) (sz : Nat) (A : Nat → Nat → Int32) (B : Nat → Nat → Int64) (S : Nat → Int32) (sd : Int64) (G0 : mG) (hG : G = gM dA ad A B S sd G0) (p0 p1 : Int32) (t : Nat) (ht : t < 12) (ep : p0 = nI t) : Met l y_M_isSpare (.code y_M_isSpare b_M_isSpare 3 (some .boolean) :: mBig) ({ frames := 0, cells := 0, slots := 0, locals := 0 }) (mPc [.ref (ad 1000), .int p0, .int p1] D mCl (mTys dA) mTx ad G sz) (mQi (fun (rv : Int32) (u : mU) => (bv rv (A 3 t = p1 ∧ A 7 t = 0 ∧ B 6 t = 0 ∧ A 8 t = 0)) ∧ u = (ad, G)) D mCl ad G sz) 0 0 (mA ad G sz) := by
  refine Met.ofW (cc := b_M_isSpare) (maxL := 3) (ret := (some .boolean)) (by decide) rfl ?_
  intro p e s m args below meth c s₁ BB hml hv
  obtain ⟨rfl, hsz, hw0, hC⟩ := hv
  have hx := BB.exec
  have hb := BB.bytes
  have hr := BB.returns
  have hts := atoms_spec (ws := .code y_M_isSpare b_M_isSpare 3 (some .boolean) :: mBig) BB.pre
  have hT : ∀ w ∈ mBig, w.before _ s = true := fun w h => hts w (List.mem_cons_of_mem _ h)
  have hown : s.vm.findClass "EdgeWearModel" = some m.cls := findClass_of_methodNamed BB.named
  have hlocks := BB.notSynchronized
  subst hsz
  have hm := mS.start hw0
  have hA : ∀ q : Nat, s.heap.size ≤ q → mA ad G s.heap.size q := fun q h => Or.inr h
  have hl := lv_entry ([.ref (ad 1000), .int p0, .int p1]) (n := 3) (Nat.le_of_ble_eq_true rfl)
  rw [lg_entry_eq]
  generalize (lg_sl ([.ref (ad 1000), .int p0, .int p1]) ++ List.replicate (3 - (lg_sl ([.ref (ad 1000), .int p0, .int p1])).length) Slot.unset).toArray = ls at hl ⊢
  have hl : lv_has ls 3 [(0, .ref (ad 1000)), (1, .int p0), (2, .int p1)] := hl
  refine lv_aload_n hx hb d_M_isSpare_0 rfl (lv_at hl 0 rfl) ?_
  refine m_get (v := .ref (ad 1003)) (C := R_M) (T := T_M) (N := 28) hx hb hT in_M hown hC.1 hm 1000 rfl ((congrFun hG 1000).trans gM_o) rfl 3 (by decide) (hT _ k_593) (fun _ h9 => h9) rfl d_M_isSpare_1 ?_
  refine lv_iload_n hx hb d_M_isSpare_4 rfl (lv_at hl 1 rfl) ?_
  refine m_iald (v := A 3 t) hx hb hC.1 hm 1003 rfl 0 ((congrFun hG 1003).trans gM_3) rfl (by rw [ep]; exact vp_in_nI (by omega) (by decide)) (by rw [ep, nI_clamp (by omega)]) d_M_isSpare_5 ?_
  refine lv_iload_n hx hb d_M_isSpare_6 rfl (lv_at hl 2 rfl) ?_
  refine lv_icmp_ne (tgt := 43) hx hb d_M_isSpare_7 (by decide) (fun c_7 => ?_) (fun c_7 => ?_)
  · refine lv_iconst (v := 0) hx hb d_M_isSpare_43 (by decide) ?_
    exact m_zret (v := 0) hx hb hr rfl hm (⟨bv0 (fun h => c_7 h.1), rfl⟩) d_M_isSpare_44 hlocks
  · refine lv_aload_n hx hb d_M_isSpare_10 rfl (lv_at hl 0 rfl) ?_
    refine m_get (v := .ref (ad 1007)) (C := R_M) (T := T_M) (N := 28) hx hb hT in_M hown hC.1 hm 1000 rfl ((congrFun hG 1000).trans gM_o) rfl 7 (by decide) (hT _ k_597) (fun _ h9 => h9) rfl d_M_isSpare_11 ?_
    refine lv_iload_n hx hb d_M_isSpare_14 rfl (lv_at hl 1 rfl) ?_
    refine m_zald (v := A 7 t) hx hb hC.1 hm 1007 rfl 2 ((congrFun hG 1007).trans gM_7) rfl (by rw [ep]; exact vp_in_nI (by omega) (by decide)) (by rw [ep, nI_clamp (by omega)]) d_M_isSpare_15 ?_
    refine lv_if_ne (tgt := 43) hx hb d_M_isSpare_16 (by decide) (fun c_16 => ?_) (fun c_16 => ?_)
    · refine lv_iconst (v := 0) hx hb d_M_isSpare_43 (by decide) ?_
      exact m_zret (v := 0) hx hb hr rfl hm (⟨bv0 (fun h => c_16 h.2.1), rfl⟩) d_M_isSpare_44 hlocks
    · refine lv_aload_n hx hb d_M_isSpare_19 rfl (lv_at hl 0 rfl) ?_
      refine m_get (v := .ref (ad 1006)) (C := R_M) (T := T_M) (N := 28) hx hb hT in_M hown hC.1 hm 1000 rfl ((congrFun hG 1000).trans gM_o) rfl 6 (by decide) (hT _ k_596) (fun _ h9 => h9) rfl d_M_isSpare_20 ?_
      refine lv_iload_n hx hb d_M_isSpare_23 rfl (lv_at hl 1 rfl) ?_
      refine m_lald (v := B 6 t) hx hb hC.1 hm 1006 rfl 1 ((congrFun hG 1006).trans gM_6) rfl (by rw [ep]; exact vp_in_nI (by omega) (by decide)) (by rw [ep, nI_clamp (by omega)]) d_M_isSpare_24 ?_
      refine lv_lconst (v := 0) hx hb d_M_isSpare_25 (by decide) ?_
      refine W.lcmp hx hb d_M_isSpare_26 ?_
      refine lv_if_ne (tgt := 43) hx hb d_M_isSpare_27 (by decide) (fun c_27 => ?_) (fun c_27 => ?_)
      · refine lv_iconst (v := 0) hx hb d_M_isSpare_43 (by decide) ?_
        exact m_zret (v := 0) hx hb hr rfl hm (⟨bv0 (fun h => c_27 ((lg_eq _ _).mpr h.2.2.1)), rfl⟩) d_M_isSpare_44 hlocks
      · refine lv_aload_n hx hb d_M_isSpare_30 rfl (lv_at hl 0 rfl) ?_
        refine m_get (v := .ref (ad 1008)) (C := R_M) (T := T_M) (N := 28) hx hb hT in_M hown hC.1 hm 1000 rfl ((congrFun hG 1000).trans gM_o) rfl 8 (by decide) (hT _ k_598) (fun _ h9 => h9) rfl d_M_isSpare_31 ?_
        refine lv_iload_n hx hb d_M_isSpare_34 rfl (lv_at hl 1 rfl) ?_
        refine m_zald (v := A 8 t) hx hb hC.1 hm 1008 rfl 2 ((congrFun hG 1008).trans gM_8) rfl (by rw [ep]; exact vp_in_nI (by omega) (by decide)) (by rw [ep, nI_clamp (by omega)]) d_M_isSpare_35 ?_
        refine lv_if_ne (tgt := 43) hx hb d_M_isSpare_36 (by decide) (fun c_36 => ?_) (fun c_36 => ?_)
        · refine lv_iconst (v := 0) hx hb d_M_isSpare_43 (by decide) ?_
          exact m_zret (v := 0) hx hb hr rfl hm (⟨bv0 (fun h => c_36 h.2.2.2), rfl⟩) d_M_isSpare_44 hlocks
        · refine lv_iconst (v := 1) hx hb d_M_isSpare_39 (by decide) ?_
          refine lv_goto (tgt := 44) hx hb d_M_isSpare_40 (by decide) ?_
          exact m_zret (v := 1) hx hb hr rfl hm (⟨bv1 ⟨Classical.not_not.mp (fun q => q c_7), c_16, (lg_eq _ _).mp c_27, c_36⟩, rfl⟩) d_M_isSpare_44 hlocks

set_option maxHeartbeats 4000000 in
set_option maxRecDepth 100000 in
theorem c_M_spare (l : Launch) (D : va_G) (dA : Nat → ClassId) (ad : Nat → Nat) (G : mG) (sz : Nat) (A : Nat → Nat → Int32) (B : Nat → Nat → Int64) (S : Nat → Int32) (sd : Int64) (G0 : mG) (hG : G = gM dA ad A B S sd G0) (tc : Nat) (hS : S 2 = nI tc) (ht : tc ≤ 12) (p0 : Int32) : Met l y_M_spare (.code y_M_spare b_M_spare 4 (some .int) :: mBig) ({ frames := 1, cells := 0, slots := 0, locals := 22 }) (mPc [.ref (ad 1000), .int p0] D mCl (mTys dA) mTx ad G sz) (mQi (fun (rv : Int32) (u : mU) => ((¬ (∃ i, i < 4 ∧ p0 = nI i) ∧ u = (ad, gM dA ad A B (va_up S 0 1) sd G0)) ∨ ((∃ i, i < 4 ∧ p0 = nI i) ∧ rv = nI (eCnt (mSp A B p0) tc) ∧ u = (ad, gM dA ad A B (va_up S 0 0) sd G0)))) D mCl ad G sz) 0 0 (mA ad G sz) := by
  refine Met.ofW (cc := b_M_spare) (maxL := 4) (ret := (some .int)) (by decide) rfl ?_
  intro p e s m args below meth c s₁ BB hml hv
  obtain ⟨rfl, hsz, hw0, hC⟩ := hv
  have hx := BB.exec
  have hb := BB.bytes
  have hr := BB.returns
  have hts := atoms_spec (ws := .code y_M_spare b_M_spare 4 (some .int) :: mBig) BB.pre
  have hT : ∀ w ∈ mBig, w.before _ s = true := fun w h => hts w (List.mem_cons_of_mem _ h)
  have hown : s.vm.findClass "EdgeWearModel" = some m.cls := findClass_of_methodNamed BB.named
  have hlocks := BB.notSynchronized
  subst hsz
  have hm := mS.start hw0
  have hA : ∀ q : Nat, s.heap.size ≤ q → mA ad G s.heap.size q := fun q h => Or.inr h
  have hl := lv_entry ([.ref (ad 1000), .int p0]) (n := 4) (Nat.le_of_ble_eq_true rfl)
  rw [lg_entry_eq]
  generalize (lg_sl ([.ref (ad 1000), .int p0]) ++ List.replicate (4 - (lg_sl ([.ref (ad 1000), .int p0])).length) Slot.unset).toArray = ls at hl ⊢
  have hl : lv_has ls 4 [(0, .ref (ad 1000)), (1, .int p0)] := hl
  refine lv_aload_n hx hb d_M_spare_0 rfl (lv_at hl 0 rfl) ?_
  refine lv_iload_n hx hb d_M_spare_1 rfl (lv_at hl 1 rfl) ?_
  refine m_roi (m_runS (As := [.int p0]) (rest := [.ref (ad 1000)]) ⟨hx, hb, hml, hown, hts⟩ (c_M_isFour l D dA ad G s.heap.size p0) (va_cwS 1 hts (gS k_687 k_685 k_686 k_4) rfl rfl rfl (by decide +kernel) ⟨Nat.le_of_ble_eq_true rfl, Nat.le_of_ble_eq_true rfl⟩) hm hA hC rfl hl.1 rfl (Nat.le_of_ble_eq_true rfl) d_M_spare_2 ⟨Nat.le_of_ble_eq_true rfl, Nat.le_of_ble_eq_true rfl⟩) hm hA (fun r_1 H locs w_2 hm => ?_)
  refine lv_if_eq (tgt := 12) hx hb d_M_spare_5 (by decide) (fun c_5 => ?_) (fun c_5 => ?_)
  · refine lv_iconst (v := 1) hx hb d_M_spare_12 (by decide) ?_
    refine m_put (v := .int 1) (ty := .int) (C := R_M) (T := T_M) (N := 28) hx hb hT in_M t_M tok_M nm_M hown hC.1 hm 1000 rfl ((congrFun hG 1000).trans gM_o) rfl 0 (by decide) (hT _ k_590) (fun _ h9 => h9) rfl (by decide +kernel) rfl rfl (Nat.le_of_ble_eq_true rfl) d_M_spare_13 (fun H locs hm => ?_)
    obtain ⟨G_3, eG_3⟩ : ∃ z : mG, z = va_up G 1000 (some (.inr (6, [.int 1, .long sd, .int (S 2), .ref (ad 1003), .ref (ad 1004), .ref (ad 1005), .ref (ad 1006), .ref (ad 1007), .ref (ad 1008), .ref (ad 1009), .ref (ad 1010), .ref (ad 1011), .ref (ad 1012), .ref (ad 1013), .ref (ad 1014), .ref (ad 1015), .ref (ad 1016), .int (S 17), .int (S 18), .int (S 19), .int (S 20), .ref (ad 1021), .ref (ad 1022), .ref (ad 1023), .ref (ad 1024), .ref (ad 1025), .int (S 26), .int (S 27)]))) := ⟨_, rfl⟩
    have hm : mS D mCl (mA ad G s.heap.size) s.heap ad G_3 H locs := by rw [eG_3]; exact hm
    have g_4 : G_3 1000 = some (.inr (6, [.int 1, .long sd, .int (S 2), .ref (ad 1003), .ref (ad 1004), .ref (ad 1005), .ref (ad 1006), .ref (ad 1007), .ref (ad 1008), .ref (ad 1009), .ref (ad 1010), .ref (ad 1011), .ref (ad 1012), .ref (ad 1013), .ref (ad 1014), .ref (ad 1015), .ref (ad 1016), .int (S 17), .int (S 18), .int (S 19), .int (S 20), .ref (ad 1021), .ref (ad 1022), .ref (ad 1023), .ref (ad 1024), .ref (ad 1025), .int (S 26), .int (S 27)])) := by rw [eG_3, va_up_self]
    have g_5 := (congrFun eG_3 1003).trans ((va_up_ne _ _ (by decide)).trans ((congrFun hG 1003).trans gM_3))
    have g_6 := (congrFun eG_3 1004).trans ((va_up_ne _ _ (by decide)).trans ((congrFun hG 1004).trans gM_4))
    have g_7 := (congrFun eG_3 1005).trans ((va_up_ne _ _ (by decide)).trans ((congrFun hG 1005).trans gM_5))
    have g_8 := (congrFun eG_3 1006).trans ((va_up_ne _ _ (by decide)).trans ((congrFun hG 1006).trans gM_6))
    have g_9 := (congrFun eG_3 1007).trans ((va_up_ne _ _ (by decide)).trans ((congrFun hG 1007).trans gM_7))
    have g_10 := (congrFun eG_3 1008).trans ((va_up_ne _ _ (by decide)).trans ((congrFun hG 1008).trans gM_8))
    have g_11 := (congrFun eG_3 1009).trans ((va_up_ne _ _ (by decide)).trans ((congrFun hG 1009).trans gM_9))
    have g_12 := (congrFun eG_3 1010).trans ((va_up_ne _ _ (by decide)).trans ((congrFun hG 1010).trans gM_10))
    have g_13 := (congrFun eG_3 1011).trans ((va_up_ne _ _ (by decide)).trans ((congrFun hG 1011).trans gM_11))
    have g_14 := (congrFun eG_3 1012).trans ((va_up_ne _ _ (by decide)).trans ((congrFun hG 1012).trans gM_12))
    have g_15 := (congrFun eG_3 1013).trans ((va_up_ne _ _ (by decide)).trans ((congrFun hG 1013).trans gM_13))
    have g_16 := (congrFun eG_3 1014).trans ((va_up_ne _ _ (by decide)).trans ((congrFun hG 1014).trans gM_14))
    have g_17 := (congrFun eG_3 1015).trans ((va_up_ne _ _ (by decide)).trans ((congrFun hG 1015).trans gM_15))
    have g_18 := (congrFun eG_3 1016).trans ((va_up_ne _ _ (by decide)).trans ((congrFun hG 1016).trans gM_16))
    have g_19 := (congrFun eG_3 1021).trans ((va_up_ne _ _ (by decide)).trans ((congrFun hG 1021).trans gM_21))
    have g_20 := (congrFun eG_3 1022).trans ((va_up_ne _ _ (by decide)).trans ((congrFun hG 1022).trans gM_22))
    have g_21 := (congrFun eG_3 1023).trans ((va_up_ne _ _ (by decide)).trans ((congrFun hG 1023).trans gM_23))
    have g_22 := (congrFun eG_3 1024).trans ((va_up_ne _ _ (by decide)).trans ((congrFun hG 1024).trans gM_24))
    have g_23 := (congrFun eG_3 1025).trans ((va_up_ne _ _ (by decide)).trans ((congrFun hG 1025).trans gM_25))
    have hG : G_3 = gM dA ad A B (va_up S 0 1) sd G0 := by rw [eG_3, hG]; exact gM_uo (va_up S 0 1)
    refine lv_iconst (v := 0) hx hb d_M_spare_16 (by decide) ?_
    refine lv_istore_n (lv' := [(2, .int 0), (0, .ref (ad 1000)), (1, .int p0)]) hx hb d_M_spare_17 rfl hl (by decide) rfl (fun ls hl => ?_)
    refine lv_iconst (v := 0) hx hb d_M_spare_18 (by decide) ?_
    refine lv_istore_n (lv' := [(3, .int 0), (2, .int 0), (0, .ref (ad 1000)), (1, .int p0)]) hx hb d_M_spare_19 rfl hl (by decide) rfl (fun ls hl => ?_)
    refine lv_iload_n hx hb d_M_spare_20 rfl (lv_at hl 0 rfl) ?_
    refine lv_aload_n hx hb d_M_spare_21 rfl (lv_at hl 2 rfl) ?_
    refine m_get (v := .int (S 2)) (C := R_M) (T := T_M) (N := 28) hx hb hT in_M hown hC.1 hm 1000 rfl g_4 rfl 2 (by decide) (hT _ k_592) (fun _ h9 => h9) rfl d_M_spare_22 ?_
    refine lv_icmp_ge (tgt := 58) hx hb d_M_spare_25 (by decide) (fun c_25 => ?_) (fun c_25 => ?_)
    · refine lv_iload_n hx hb d_M_spare_58 rfl (lv_at hl 1 rfl) ?_
      exact m_iret (v := 0) hx hb hr hm (Or.inl ⟨bv_eq w_2 c_5, by rw [hG]⟩) d_M_spare_59 hlocks
    · refine lv_aload_n hx hb d_M_spare_28 rfl (lv_at hl 2 rfl) ?_
      refine m_get (v := .int 1) (C := R_M) (T := T_M) (N := 28) hx hb hT in_M hown hC.1 hm 1000 rfl g_4 rfl 0 (by decide) (hT _ k_590) (fun _ h9 => h9) rfl d_M_spare_29 ?_
      refine lv_if_ne (tgt := 58) hx hb d_M_spare_32 (by decide) (fun _ => ?_) (fun c9 => absurd c9 (by decide))
      refine lv_iload_n hx hb d_M_spare_58 rfl (lv_at hl 1 rfl) ?_
      exact m_iret (v := 0) hx hb hr hm (Or.inl ⟨bv_eq w_2 c_5, by rw [hG]⟩) d_M_spare_59 hlocks
  · refine lv_iconst (v := 0) hx hb d_M_spare_8 (by decide) ?_
    refine lv_goto (tgt := 13) hx hb d_M_spare_9 (by decide) ?_
    refine m_put (v := .int 0) (ty := .int) (C := R_M) (T := T_M) (N := 28) hx hb hT in_M t_M tok_M nm_M hown hC.1 hm 1000 rfl ((congrFun hG 1000).trans gM_o) rfl 0 (by decide) (hT _ k_590) (fun _ h9 => h9) rfl (by decide +kernel) rfl rfl (Nat.le_of_ble_eq_true rfl) d_M_spare_13 (fun H locs hm => ?_)
    obtain ⟨G_24, eG_24⟩ : ∃ z : mG, z = va_up G 1000 (some (.inr (6, [.int 0, .long sd, .int (S 2), .ref (ad 1003), .ref (ad 1004), .ref (ad 1005), .ref (ad 1006), .ref (ad 1007), .ref (ad 1008), .ref (ad 1009), .ref (ad 1010), .ref (ad 1011), .ref (ad 1012), .ref (ad 1013), .ref (ad 1014), .ref (ad 1015), .ref (ad 1016), .int (S 17), .int (S 18), .int (S 19), .int (S 20), .ref (ad 1021), .ref (ad 1022), .ref (ad 1023), .ref (ad 1024), .ref (ad 1025), .int (S 26), .int (S 27)]))) := ⟨_, rfl⟩
    have hm : mS D mCl (mA ad G s.heap.size) s.heap ad G_24 H locs := by rw [eG_24]; exact hm
    have g_25 : G_24 1000 = some (.inr (6, [.int 0, .long sd, .int (S 2), .ref (ad 1003), .ref (ad 1004), .ref (ad 1005), .ref (ad 1006), .ref (ad 1007), .ref (ad 1008), .ref (ad 1009), .ref (ad 1010), .ref (ad 1011), .ref (ad 1012), .ref (ad 1013), .ref (ad 1014), .ref (ad 1015), .ref (ad 1016), .int (S 17), .int (S 18), .int (S 19), .int (S 20), .ref (ad 1021), .ref (ad 1022), .ref (ad 1023), .ref (ad 1024), .ref (ad 1025), .int (S 26), .int (S 27)])) := by rw [eG_24, va_up_self]
    have g_26 := (congrFun eG_24 1003).trans ((va_up_ne _ _ (by decide)).trans ((congrFun hG 1003).trans gM_3))
    have g_27 := (congrFun eG_24 1004).trans ((va_up_ne _ _ (by decide)).trans ((congrFun hG 1004).trans gM_4))
    have g_28 := (congrFun eG_24 1005).trans ((va_up_ne _ _ (by decide)).trans ((congrFun hG 1005).trans gM_5))
    have g_29 := (congrFun eG_24 1006).trans ((va_up_ne _ _ (by decide)).trans ((congrFun hG 1006).trans gM_6))
    have g_30 := (congrFun eG_24 1007).trans ((va_up_ne _ _ (by decide)).trans ((congrFun hG 1007).trans gM_7))
    have g_31 := (congrFun eG_24 1008).trans ((va_up_ne _ _ (by decide)).trans ((congrFun hG 1008).trans gM_8))
    have g_32 := (congrFun eG_24 1009).trans ((va_up_ne _ _ (by decide)).trans ((congrFun hG 1009).trans gM_9))
    have g_33 := (congrFun eG_24 1010).trans ((va_up_ne _ _ (by decide)).trans ((congrFun hG 1010).trans gM_10))
    have g_34 := (congrFun eG_24 1011).trans ((va_up_ne _ _ (by decide)).trans ((congrFun hG 1011).trans gM_11))
    have g_35 := (congrFun eG_24 1012).trans ((va_up_ne _ _ (by decide)).trans ((congrFun hG 1012).trans gM_12))
    have g_36 := (congrFun eG_24 1013).trans ((va_up_ne _ _ (by decide)).trans ((congrFun hG 1013).trans gM_13))
    have g_37 := (congrFun eG_24 1014).trans ((va_up_ne _ _ (by decide)).trans ((congrFun hG 1014).trans gM_14))
    have g_38 := (congrFun eG_24 1015).trans ((va_up_ne _ _ (by decide)).trans ((congrFun hG 1015).trans gM_15))
    have g_39 := (congrFun eG_24 1016).trans ((va_up_ne _ _ (by decide)).trans ((congrFun hG 1016).trans gM_16))
    have g_40 := (congrFun eG_24 1021).trans ((va_up_ne _ _ (by decide)).trans ((congrFun hG 1021).trans gM_21))
    have g_41 := (congrFun eG_24 1022).trans ((va_up_ne _ _ (by decide)).trans ((congrFun hG 1022).trans gM_22))
    have g_42 := (congrFun eG_24 1023).trans ((va_up_ne _ _ (by decide)).trans ((congrFun hG 1023).trans gM_23))
    have g_43 := (congrFun eG_24 1024).trans ((va_up_ne _ _ (by decide)).trans ((congrFun hG 1024).trans gM_24))
    have g_44 := (congrFun eG_24 1025).trans ((va_up_ne _ _ (by decide)).trans ((congrFun hG 1025).trans gM_25))
    have hG : G_24 = gM dA ad A B (va_up S 0 0) sd G0 := by rw [eG_24, hG]; exact gM_uo (va_up S 0 0)
    refine lv_iconst (v := 0) hx hb d_M_spare_16 (by decide) ?_
    refine lv_istore_n (lv' := [(2, .int 0), (0, .ref (ad 1000)), (1, .int p0)]) hx hb d_M_spare_17 rfl hl (by decide) rfl (fun ls hl => ?_)
    refine lv_iconst (v := 0) hx hb d_M_spare_18 (by decide) ?_
    refine lv_istore_n (lv' := [(3, .int 0), (2, .int 0), (0, .ref (ad 1000)), (1, .int p0)]) hx hb d_M_spare_19 rfl hl (by decide) rfl (fun ls hl => ?_)
    refine m_loopH (nL := 4) (head := 20) (fun (q9 : Nat) => fun (x : Nat) => match x with | k => k + q9 = tc + 1 ∧ k ≤ tc ∧ True) (fun (x : Nat) => match x with | k => [(0, .ref (ad 1000)), (1, .int p0), (2, .int (nI (eCnt (mSp A B p0) k))), (3, .int (nI k))]) (fun _ => G_24) (fun k h => by have h1 := h.1; have h2 := h.2.1; omega) (fun q9 x ls H locs hI hl hm ih20 => ?_) (tc) (0) (⟨by omega, by omega, trivial⟩) (lv_sub hl [2, 3, 1, 0] rfl) hm
    obtain ⟨k, ek⟩ : ∃ z, z = x := ⟨_, rfl⟩
    subst ek
    replace hI : (fun (q9 : Nat) => k + q9 = tc + 1 ∧ k ≤ tc ∧ True) (q9 + 1) := hI
    have hl : lv_has ls 4 [(0, .ref (ad 1000)), (1, .int p0), (2, .int (nI (eCnt (mSp A B p0) k))), (3, .int (nI k))] := hl
    refine lv_iload_n hx hb d_M_spare_20 rfl (lv_at hl 3 rfl) ?_
    refine lv_aload_n hx hb d_M_spare_21 rfl (lv_at hl 0 rfl) ?_
    refine m_get (v := .int (S 2)) (C := R_M) (T := T_M) (N := 28) hx hb hT in_M hown hC.1 hm 1000 rfl g_25 rfl 2 (by decide) (hT _ k_592) (fun _ h9 => h9) rfl d_M_spare_22 ?_
    refine lv_icmp_ge (tgt := 58) hx hb d_M_spare_25 (by decide) (fun c_25 => ?_) (fun c_25 => ?_)
    · have hge : k = tc := by
        have h9 := c_25
        rw [hS] at h9
        have := (nI_leI (by omega) (by omega)).mp h9
        omega
      refine lv_iload_n hx hb d_M_spare_58 rfl (lv_at hl 2 rfl) ?_
      exact m_iret (v := nI (eCnt (mSp A B p0) k)) hx hb hr hm (Or.inr (⟨bv_ne w_2 c_5, by rw [hge], by rw [hG]⟩)) d_M_spare_59 hlocks
    · have hk12 : k < tc := by
        have h9 := Int32.not_le.mp c_25
        rw [hS] at h9
        exact (nI_ltI (by omega) (by omega)).mp h9
      refine lv_aload_n hx hb d_M_spare_28 rfl (lv_at hl 0 rfl) ?_
      refine m_get (v := .int 0) (C := R_M) (T := T_M) (N := 28) hx hb hT in_M hown hC.1 hm 1000 rfl g_25 rfl 0 (by decide) (hT _ k_590) (fun _ h9 => h9) rfl d_M_spare_29 ?_
      refine lv_if_ne (tgt := 58) hx hb d_M_spare_32 (by decide) (fun c9 => absurd c9 (by decide)) (fun _ => ?_)
      refine lv_aload_n hx hb d_M_spare_35 rfl (lv_at hl 0 rfl) ?_
      refine lv_iload_n hx hb d_M_spare_36 rfl (lv_at hl 3 rfl) ?_
      refine lv_iload_n hx hb d_M_spare_37 rfl (lv_at hl 1 rfl) ?_
      refine m_roi (m_runV (As := [.int (nI k), .int p0]) (rest := []) ⟨hx, hb, hml, hown, hts⟩ (c_M_isSpare l D dA ad G_24 H.size A B (va_up S 0 0) sd G0 hG (nI k) p0 k (by omega) rfl) (cwV 2 hts (gV k_730 k_727 k_729 ks_9 k_4) rfl rfl rfl (by decide +kernel) ⟨Nat.le_of_ble_eq_true rfl, Nat.le_of_ble_eq_true rfl⟩) hm hA hC 1000 rfl g_25 rfl rfl rfl hl.1 rfl (Nat.le_of_ble_eq_true rfl) d_M_spare_38 ⟨Nat.le_of_ble_eq_true rfl, Nat.le_of_ble_eq_true rfl⟩) hm hA (fun r_45 H locs w_46 hm => ?_)
      refine lv_if_eq (tgt := 50) hx hb d_M_spare_41 (by decide) (fun c_41 => ?_) (fun c_41 => ?_)
      · have hP : ¬ mSp A B p0 k = true := fun q => bv_eq w_46 c_41 (of_decide_eq_true q)
        rw [← eCnt_neg hP] at hl
        refine lv_iload_n hx hb d_M_spare_50 rfl (lv_at hl 2 rfl) ?_
        refine lv_istore_n (lv' := [(2, .int (nI (eCnt (mSp A B p0) (k + 1)))), (0, .ref (ad 1000)), (1, .int p0), (3, .int (nI k))]) hx hb d_M_spare_51 rfl hl (by decide) rfl (fun ls hl => ?_)
        refine lv_iinc (v := nI (k + 1)) (lv' := [(3, .int (nI (k + 1))), (2, .int (nI (eCnt (mSp A B p0) (k + 1)))), (0, .ref (ad 1000)), (1, .int p0)]) hx hb d_M_spare_52 hl (k := 3) rfl (nI_1 _) (by decide) rfl (fun ls hl => ?_)
        refine lv_goto (tgt := 20) hx hb d_M_spare_55 (by decide) ?_
        exact ih20 (k + 1) ls H locs (⟨by omega, by omega, trivial⟩) (lv_sub hl [2, 3, 1, 0] rfl) hm
      · refine lv_iload_n hx hb d_M_spare_44 rfl (lv_at hl 2 rfl) ?_
        refine lv_iconst (v := 1) hx hb d_M_spare_45 (by decide) ?_
        refine lv_iadd hx hb d_M_spare_46 ?_
        refine lv_topi (fun x_47 ex_47 => ?_)
        have hP : mSp A B p0 k = true := decide_eq_true (bv_ne w_46 c_41)
        obtain rfl : x_47 = nI (eCnt (mSp A B p0) (k + 1)) := by rw [ex_47, nI_1, eCnt_pos hP]
        refine lv_goto (tgt := 51) hx hb d_M_spare_47 (by decide) ?_
        refine lv_istore_n (lv' := [(2, .int (nI (eCnt (mSp A B p0) (k + 1)))), (0, .ref (ad 1000)), (1, .int p0), (3, .int (nI k))]) hx hb d_M_spare_51 rfl hl (by decide) rfl (fun ls hl => ?_)
        refine lv_iinc (v := nI (k + 1)) (lv' := [(3, .int (nI (k + 1))), (2, .int (nI (eCnt (mSp A B p0) (k + 1)))), (0, .ref (ad 1000)), (1, .int p0)]) hx hb d_M_spare_52 hl (k := 3) rfl (nI_1 _) (by decide) rfl (fun ls hl => ?_)
        refine lv_goto (tgt := 20) hx hb d_M_spare_55 (by decide) ?_
        exact ih20 (k + 1) ls H locs (⟨by omega, by omega, trivial⟩) (lv_sub hl [2, 3, 1, 0] rfl) hm

set_option maxHeartbeats 4000000 in
set_option maxRecDepth 100000 in
theorem c_M_take (l : Launch) (D : va_G) (dA : Nat → ClassId) (ad : Nat → Nat) (G : mG) (sz : Nat) (A : Nat → Nat → Int32) (B : Nat → Nat → Int64) (S : Nat → Int32) (sd : Int64) (G0 : mG) (hG : G = gM dA ad A B S sd G0) (tc : Nat) (hS : S 2 = nI tc) (ht : tc ≤ 12) (p0 : Int32) : Met l y_M_take (.code y_M_take b_M_take 4 (some .int) :: mBig) ({ frames := 1, cells := 0, slots := 0, locals := 22 }) (mPc [.ref (ad 1000), .int p0] D mCl (mTys dA) mTx ad G sz) (mQi (fun (rv : Int32) (u : mU) => ((¬ (∃ i, i < 4 ∧ p0 = nI i) ∧ u = (ad, gM dA ad A B (va_up S 0 1) sd G0)) ∨ ((∃ i, i < 4 ∧ p0 = nI i) ∧ ((mNx (mSp A B p0) (A 4) tc = none ∧ rv = -1 ∧ u = (ad, gM dA ad A B (va_up S 0 0) sd G0)) ∨ ∃ t, t < tc ∧ mNx (mSp A B p0) (A 4) tc = some t ∧ rv = nI t ∧ u = (ad, gM dA ad (va_up A 8 (upd (A 8) t 1)) B (va_up S 0 0) sd G0))))) D mCl ad G sz) 0 0 (mA ad G sz) := by
  refine Met.ofW (cc := b_M_take) (maxL := 4) (ret := (some .int)) (by decide) rfl ?_
  intro p e s m args below meth c s₁ BB hml hv
  obtain ⟨rfl, hsz, hw0, hC⟩ := hv
  have hx := BB.exec
  have hb := BB.bytes
  have hr := BB.returns
  have hts := atoms_spec (ws := .code y_M_take b_M_take 4 (some .int) :: mBig) BB.pre
  have hT : ∀ w ∈ mBig, w.before _ s = true := fun w h => hts w (List.mem_cons_of_mem _ h)
  have hown : s.vm.findClass "EdgeWearModel" = some m.cls := findClass_of_methodNamed BB.named
  have hlocks := BB.notSynchronized
  subst hsz
  have hm := mS.start hw0
  have hA : ∀ q : Nat, s.heap.size ≤ q → mA ad G s.heap.size q := fun q h => Or.inr h
  have hl := lv_entry ([.ref (ad 1000), .int p0]) (n := 4) (Nat.le_of_ble_eq_true rfl)
  rw [lg_entry_eq]
  generalize (lg_sl ([.ref (ad 1000), .int p0]) ++ List.replicate (4 - (lg_sl ([.ref (ad 1000), .int p0])).length) Slot.unset).toArray = ls at hl ⊢
  have hl : lv_has ls 4 [(0, .ref (ad 1000)), (1, .int p0)] := hl
  refine lv_aload_n hx hb d_M_take_0 rfl (lv_at hl 0 rfl) ?_
  refine lv_iload_n hx hb d_M_take_1 rfl (lv_at hl 1 rfl) ?_
  refine m_roi (m_runS (As := [.int p0]) (rest := [.ref (ad 1000)]) ⟨hx, hb, hml, hown, hts⟩ (c_M_isFour l D dA ad G s.heap.size p0) (va_cwS 1 hts (gS k_687 k_685 k_686 k_4) rfl rfl rfl (by decide +kernel) ⟨Nat.le_of_ble_eq_true rfl, Nat.le_of_ble_eq_true rfl⟩) hm hA hC rfl hl.1 rfl (Nat.le_of_ble_eq_true rfl) d_M_take_2 ⟨Nat.le_of_ble_eq_true rfl, Nat.le_of_ble_eq_true rfl⟩) hm hA (fun r_1 H locs w_2 hm => ?_)
  refine lv_if_eq (tgt := 12) hx hb d_M_take_5 (by decide) (fun c_5 => ?_) (fun c_5 => ?_)
  · refine lv_iconst (v := 1) hx hb d_M_take_12 (by decide) ?_
    refine m_put (v := .int 1) (ty := .int) (C := R_M) (T := T_M) (N := 28) hx hb hT in_M t_M tok_M nm_M hown hC.1 hm 1000 rfl ((congrFun hG 1000).trans gM_o) rfl 0 (by decide) (hT _ k_590) (fun _ h9 => h9) rfl (by decide +kernel) rfl rfl (Nat.le_of_ble_eq_true rfl) d_M_take_13 (fun H locs hm => ?_)
    obtain ⟨G_3, eG_3⟩ : ∃ z : mG, z = va_up G 1000 (some (.inr (6, [.int 1, .long sd, .int (S 2), .ref (ad 1003), .ref (ad 1004), .ref (ad 1005), .ref (ad 1006), .ref (ad 1007), .ref (ad 1008), .ref (ad 1009), .ref (ad 1010), .ref (ad 1011), .ref (ad 1012), .ref (ad 1013), .ref (ad 1014), .ref (ad 1015), .ref (ad 1016), .int (S 17), .int (S 18), .int (S 19), .int (S 20), .ref (ad 1021), .ref (ad 1022), .ref (ad 1023), .ref (ad 1024), .ref (ad 1025), .int (S 26), .int (S 27)]))) := ⟨_, rfl⟩
    have hm : mS D mCl (mA ad G s.heap.size) s.heap ad G_3 H locs := by rw [eG_3]; exact hm
    have g_4 : G_3 1000 = some (.inr (6, [.int 1, .long sd, .int (S 2), .ref (ad 1003), .ref (ad 1004), .ref (ad 1005), .ref (ad 1006), .ref (ad 1007), .ref (ad 1008), .ref (ad 1009), .ref (ad 1010), .ref (ad 1011), .ref (ad 1012), .ref (ad 1013), .ref (ad 1014), .ref (ad 1015), .ref (ad 1016), .int (S 17), .int (S 18), .int (S 19), .int (S 20), .ref (ad 1021), .ref (ad 1022), .ref (ad 1023), .ref (ad 1024), .ref (ad 1025), .int (S 26), .int (S 27)])) := by rw [eG_3, va_up_self]
    have g_5 := (congrFun eG_3 1003).trans ((va_up_ne _ _ (by decide)).trans ((congrFun hG 1003).trans gM_3))
    have g_6 := (congrFun eG_3 1004).trans ((va_up_ne _ _ (by decide)).trans ((congrFun hG 1004).trans gM_4))
    have g_7 := (congrFun eG_3 1005).trans ((va_up_ne _ _ (by decide)).trans ((congrFun hG 1005).trans gM_5))
    have g_8 := (congrFun eG_3 1006).trans ((va_up_ne _ _ (by decide)).trans ((congrFun hG 1006).trans gM_6))
    have g_9 := (congrFun eG_3 1007).trans ((va_up_ne _ _ (by decide)).trans ((congrFun hG 1007).trans gM_7))
    have g_10 := (congrFun eG_3 1008).trans ((va_up_ne _ _ (by decide)).trans ((congrFun hG 1008).trans gM_8))
    have g_11 := (congrFun eG_3 1009).trans ((va_up_ne _ _ (by decide)).trans ((congrFun hG 1009).trans gM_9))
    have g_12 := (congrFun eG_3 1010).trans ((va_up_ne _ _ (by decide)).trans ((congrFun hG 1010).trans gM_10))
    have g_13 := (congrFun eG_3 1011).trans ((va_up_ne _ _ (by decide)).trans ((congrFun hG 1011).trans gM_11))
    have g_14 := (congrFun eG_3 1012).trans ((va_up_ne _ _ (by decide)).trans ((congrFun hG 1012).trans gM_12))
    have g_15 := (congrFun eG_3 1013).trans ((va_up_ne _ _ (by decide)).trans ((congrFun hG 1013).trans gM_13))
    have g_16 := (congrFun eG_3 1014).trans ((va_up_ne _ _ (by decide)).trans ((congrFun hG 1014).trans gM_14))
    have g_17 := (congrFun eG_3 1015).trans ((va_up_ne _ _ (by decide)).trans ((congrFun hG 1015).trans gM_15))
    have g_18 := (congrFun eG_3 1016).trans ((va_up_ne _ _ (by decide)).trans ((congrFun hG 1016).trans gM_16))
    have g_19 := (congrFun eG_3 1021).trans ((va_up_ne _ _ (by decide)).trans ((congrFun hG 1021).trans gM_21))
    have g_20 := (congrFun eG_3 1022).trans ((va_up_ne _ _ (by decide)).trans ((congrFun hG 1022).trans gM_22))
    have g_21 := (congrFun eG_3 1023).trans ((va_up_ne _ _ (by decide)).trans ((congrFun hG 1023).trans gM_23))
    have g_22 := (congrFun eG_3 1024).trans ((va_up_ne _ _ (by decide)).trans ((congrFun hG 1024).trans gM_24))
    have g_23 := (congrFun eG_3 1025).trans ((va_up_ne _ _ (by decide)).trans ((congrFun hG 1025).trans gM_25))
    have hG : G_3 = gM dA ad A B (va_up S 0 1) sd G0 := by rw [eG_3, hG]; exact gM_uo (va_up S 0 1)
    refine lv_iconst (v := (-1)) hx hb d_M_take_16 (by decide) ?_
    refine lv_istore_n (lv' := [(2, .int (-1)), (0, .ref (ad 1000)), (1, .int p0)]) hx hb d_M_take_17 rfl hl (by decide) rfl (fun ls hl => ?_)
    refine lv_iconst (v := 0) hx hb d_M_take_18 (by decide) ?_
    refine lv_istore_n (lv' := [(3, .int 0), (2, .int (-1)), (0, .ref (ad 1000)), (1, .int p0)]) hx hb d_M_take_19 rfl hl (by decide) rfl (fun ls hl => ?_)
    refine lv_iload_n hx hb d_M_take_20 rfl (lv_at hl 0 rfl) ?_
    refine lv_aload_n hx hb d_M_take_21 rfl (lv_at hl 2 rfl) ?_
    refine m_get (v := .int (S 2)) (C := R_M) (T := T_M) (N := 28) hx hb hT in_M hown hC.1 hm 1000 rfl g_4 rfl 2 (by decide) (hT _ k_592) (fun _ h9 => h9) rfl d_M_take_22 ?_
    refine lv_icmp_ge (tgt := 76) hx hb d_M_take_25 (by decide) (fun c_25 => ?_) (fun c_25 => ?_)
    · refine lv_iload_n hx hb d_M_take_76 rfl (lv_at hl 1 rfl) ?_
      refine lv_iconst (v := (-1)) hx hb d_M_take_77 (by decide) ?_
      refine lv_icmp_eq (tgt := 88) hx hb d_M_take_78 (by decide) (fun _ => ?_) (fun c9 => absurd (by decide) c9)
      refine lv_aload_n hx hb d_M_take_88 rfl (lv_at hl 2 rfl) ?_
      refine m_get (v := .int 1) (C := R_M) (T := T_M) (N := 28) hx hb hT in_M hown hC.1 hm 1000 rfl g_4 rfl 0 (by decide) (hT _ k_590) (fun _ h9 => h9) rfl d_M_take_89 ?_
      refine lv_if_le (tgt := 99) hx hb d_M_take_92 (by decide) (fun c9 => absurd c9 (by decide)) (fun _ => ?_)
      refine lv_iconst (v := 0) hx hb d_M_take_95 (by decide) ?_
      refine lv_goto (tgt := 100) hx hb d_M_take_96 (by decide) ?_
      exact m_iret (v := 0) hx hb hr hm (Or.inl ⟨bv_eq w_2 c_5, by rw [hG]⟩) d_M_take_100 hlocks
    · refine lv_aload_n hx hb d_M_take_28 rfl (lv_at hl 2 rfl) ?_
      refine m_get (v := .int 1) (C := R_M) (T := T_M) (N := 28) hx hb hT in_M hown hC.1 hm 1000 rfl g_4 rfl 0 (by decide) (hT _ k_590) (fun _ h9 => h9) rfl d_M_take_29 ?_
      refine lv_if_ne (tgt := 76) hx hb d_M_take_32 (by decide) (fun _ => ?_) (fun c9 => absurd c9 (by decide))
      refine lv_iload_n hx hb d_M_take_76 rfl (lv_at hl 1 rfl) ?_
      refine lv_iconst (v := (-1)) hx hb d_M_take_77 (by decide) ?_
      refine lv_icmp_eq (tgt := 88) hx hb d_M_take_78 (by decide) (fun _ => ?_) (fun c9 => absurd (by decide) c9)
      refine lv_aload_n hx hb d_M_take_88 rfl (lv_at hl 2 rfl) ?_
      refine m_get (v := .int 1) (C := R_M) (T := T_M) (N := 28) hx hb hT in_M hown hC.1 hm 1000 rfl g_4 rfl 0 (by decide) (hT _ k_590) (fun _ h9 => h9) rfl d_M_take_89 ?_
      refine lv_if_le (tgt := 99) hx hb d_M_take_92 (by decide) (fun c9 => absurd c9 (by decide)) (fun _ => ?_)
      refine lv_iconst (v := 0) hx hb d_M_take_95 (by decide) ?_
      refine lv_goto (tgt := 100) hx hb d_M_take_96 (by decide) ?_
      exact m_iret (v := 0) hx hb hr hm (Or.inl ⟨bv_eq w_2 c_5, by rw [hG]⟩) d_M_take_100 hlocks
  · refine lv_iconst (v := 0) hx hb d_M_take_8 (by decide) ?_
    refine lv_goto (tgt := 13) hx hb d_M_take_9 (by decide) ?_
    refine m_put (v := .int 0) (ty := .int) (C := R_M) (T := T_M) (N := 28) hx hb hT in_M t_M tok_M nm_M hown hC.1 hm 1000 rfl ((congrFun hG 1000).trans gM_o) rfl 0 (by decide) (hT _ k_590) (fun _ h9 => h9) rfl (by decide +kernel) rfl rfl (Nat.le_of_ble_eq_true rfl) d_M_take_13 (fun H locs hm => ?_)
    obtain ⟨G_24, eG_24⟩ : ∃ z : mG, z = va_up G 1000 (some (.inr (6, [.int 0, .long sd, .int (S 2), .ref (ad 1003), .ref (ad 1004), .ref (ad 1005), .ref (ad 1006), .ref (ad 1007), .ref (ad 1008), .ref (ad 1009), .ref (ad 1010), .ref (ad 1011), .ref (ad 1012), .ref (ad 1013), .ref (ad 1014), .ref (ad 1015), .ref (ad 1016), .int (S 17), .int (S 18), .int (S 19), .int (S 20), .ref (ad 1021), .ref (ad 1022), .ref (ad 1023), .ref (ad 1024), .ref (ad 1025), .int (S 26), .int (S 27)]))) := ⟨_, rfl⟩
    have hm : mS D mCl (mA ad G s.heap.size) s.heap ad G_24 H locs := by rw [eG_24]; exact hm
    have g_25 : G_24 1000 = some (.inr (6, [.int 0, .long sd, .int (S 2), .ref (ad 1003), .ref (ad 1004), .ref (ad 1005), .ref (ad 1006), .ref (ad 1007), .ref (ad 1008), .ref (ad 1009), .ref (ad 1010), .ref (ad 1011), .ref (ad 1012), .ref (ad 1013), .ref (ad 1014), .ref (ad 1015), .ref (ad 1016), .int (S 17), .int (S 18), .int (S 19), .int (S 20), .ref (ad 1021), .ref (ad 1022), .ref (ad 1023), .ref (ad 1024), .ref (ad 1025), .int (S 26), .int (S 27)])) := by rw [eG_24, va_up_self]
    have g_26 := (congrFun eG_24 1003).trans ((va_up_ne _ _ (by decide)).trans ((congrFun hG 1003).trans gM_3))
    have g_27 := (congrFun eG_24 1004).trans ((va_up_ne _ _ (by decide)).trans ((congrFun hG 1004).trans gM_4))
    have g_28 := (congrFun eG_24 1005).trans ((va_up_ne _ _ (by decide)).trans ((congrFun hG 1005).trans gM_5))
    have g_29 := (congrFun eG_24 1006).trans ((va_up_ne _ _ (by decide)).trans ((congrFun hG 1006).trans gM_6))
    have g_30 := (congrFun eG_24 1007).trans ((va_up_ne _ _ (by decide)).trans ((congrFun hG 1007).trans gM_7))
    have g_31 := (congrFun eG_24 1008).trans ((va_up_ne _ _ (by decide)).trans ((congrFun hG 1008).trans gM_8))
    have g_32 := (congrFun eG_24 1009).trans ((va_up_ne _ _ (by decide)).trans ((congrFun hG 1009).trans gM_9))
    have g_33 := (congrFun eG_24 1010).trans ((va_up_ne _ _ (by decide)).trans ((congrFun hG 1010).trans gM_10))
    have g_34 := (congrFun eG_24 1011).trans ((va_up_ne _ _ (by decide)).trans ((congrFun hG 1011).trans gM_11))
    have g_35 := (congrFun eG_24 1012).trans ((va_up_ne _ _ (by decide)).trans ((congrFun hG 1012).trans gM_12))
    have g_36 := (congrFun eG_24 1013).trans ((va_up_ne _ _ (by decide)).trans ((congrFun hG 1013).trans gM_13))
    have g_37 := (congrFun eG_24 1014).trans ((va_up_ne _ _ (by decide)).trans ((congrFun hG 1014).trans gM_14))
    have g_38 := (congrFun eG_24 1015).trans ((va_up_ne _ _ (by decide)).trans ((congrFun hG 1015).trans gM_15))
    have g_39 := (congrFun eG_24 1016).trans ((va_up_ne _ _ (by decide)).trans ((congrFun hG 1016).trans gM_16))
    have g_40 := (congrFun eG_24 1021).trans ((va_up_ne _ _ (by decide)).trans ((congrFun hG 1021).trans gM_21))
    have g_41 := (congrFun eG_24 1022).trans ((va_up_ne _ _ (by decide)).trans ((congrFun hG 1022).trans gM_22))
    have g_42 := (congrFun eG_24 1023).trans ((va_up_ne _ _ (by decide)).trans ((congrFun hG 1023).trans gM_23))
    have g_43 := (congrFun eG_24 1024).trans ((va_up_ne _ _ (by decide)).trans ((congrFun hG 1024).trans gM_24))
    have g_44 := (congrFun eG_24 1025).trans ((va_up_ne _ _ (by decide)).trans ((congrFun hG 1025).trans gM_25))
    have hG : G_24 = gM dA ad A B (va_up S 0 0) sd G0 := by rw [eG_24, hG]; exact gM_uo (va_up S 0 0)
    refine lv_iconst (v := (-1)) hx hb d_M_take_16 (by decide) ?_
    refine lv_istore_n (lv' := [(2, .int (-1)), (0, .ref (ad 1000)), (1, .int p0)]) hx hb d_M_take_17 rfl hl (by decide) rfl (fun ls hl => ?_)
    refine lv_iconst (v := 0) hx hb d_M_take_18 (by decide) ?_
    refine lv_istore_n (lv' := [(3, .int 0), (2, .int (-1)), (0, .ref (ad 1000)), (1, .int p0)]) hx hb d_M_take_19 rfl hl (by decide) rfl (fun ls hl => ?_)
    refine m_loopH (nL := 4) (head := 20) (fun (q9 : Nat) => fun (x : Nat) => match x with | k => k + q9 = tc + 1 ∧ k ≤ tc ∧ True) (fun (x : Nat) => match x with | k => [(0, .ref (ad 1000)), (1, .int p0), (2, .int (mO (mNx (mSp A B p0) (A 4) k))), (3, .int (nI k))]) (fun _ => G_24) (fun k h => by have h1 := h.1; have h2 := h.2.1; omega) (fun q9 x ls H locs hI hl hm ih20 => ?_) (tc) (0) (⟨by omega, by omega, trivial⟩) (lv_sub hl [2, 3, 1, 0] rfl) hm
    obtain ⟨k, ek⟩ : ∃ z, z = x := ⟨_, rfl⟩
    subst ek
    replace hI : (fun (q9 : Nat) => k + q9 = tc + 1 ∧ k ≤ tc ∧ True) (q9 + 1) := hI
    have hl : lv_has ls 4 [(0, .ref (ad 1000)), (1, .int p0), (2, .int (mO (mNx (mSp A B p0) (A 4) k))), (3, .int (nI k))] := hl
    refine lv_iload_n hx hb d_M_take_20 rfl (lv_at hl 3 rfl) ?_
    refine lv_aload_n hx hb d_M_take_21 rfl (lv_at hl 0 rfl) ?_
    refine m_get (v := .int (S 2)) (C := R_M) (T := T_M) (N := 28) hx hb hT in_M hown hC.1 hm 1000 rfl g_25 rfl 2 (by decide) (hT _ k_592) (fun _ h9 => h9) rfl d_M_take_22 ?_
    refine lv_icmp_ge (tgt := 76) hx hb d_M_take_25 (by decide) (fun c_25 => ?_) (fun c_25 => ?_)
    · have hge : k = tc := by
        have h9 := c_25
        rw [hS] at h9
        have := (nI_leI (by omega) (by omega)).mp h9
        omega
      subst hge
      rcases mNx_or (mSp A B p0) (A 4) k with hob | ⟨t, htk, hpt, hob⟩
      · have hl : lv_has ls 4 [(0, .ref (ad 1000)), (1, .int p0), (2, .int (-1)), (3, .int (nI k))] := by rw [hob] at hl; exact hl
        refine lv_iload_n hx hb d_M_take_76 rfl (lv_at hl 2 rfl) ?_
        refine lv_iconst (v := (-1)) hx hb d_M_take_77 (by decide) ?_
        refine lv_icmp_eq (tgt := 88) hx hb d_M_take_78 (by decide) (fun _ => ?_) (fun c9 => absurd (by decide) c9)
        refine lv_aload_n hx hb d_M_take_88 rfl (lv_at hl 0 rfl) ?_
        refine m_get (v := .int 0) (C := R_M) (T := T_M) (N := 28) hx hb hT in_M hown hC.1 hm 1000 rfl g_25 rfl 0 (by decide) (hT _ k_590) (fun _ h9 => h9) rfl d_M_take_89 ?_
        refine lv_if_le (tgt := 99) hx hb d_M_take_92 (by decide) (fun _ => ?_) (fun c9 => absurd (by decide) c9)
        refine lv_iload_n hx hb d_M_take_99 rfl (lv_at hl 2 rfl) ?_
        exact m_iret (v := (-1)) hx hb hr hm (Or.inr (⟨bv_ne w_2 c_5, Or.inl ⟨hob, rfl, by rw [hG]⟩⟩)) d_M_take_100 hlocks
      · have hl : lv_has ls 4 [(0, .ref (ad 1000)), (1, .int p0), (2, .int (nI t)), (3, .int (nI k))] := by rw [hob] at hl; exact hl
        refine lv_iload_n hx hb d_M_take_76 rfl (lv_at hl 2 rfl) ?_
        refine lv_iconst (v := (-1)) hx hb d_M_take_77 (by decide) ?_
        refine lv_icmp_eq (tgt := 88) hx hb d_M_take_78 (by decide) (fun c9 => absurd c9 (nI_nm1 (by omega))) (fun _ => ?_)
        refine lv_aload_n hx hb d_M_take_81 rfl (lv_at hl 0 rfl) ?_
        refine m_get (v := .ref (ad 1008)) (C := R_M) (T := T_M) (N := 28) hx hb hT in_M hown hC.1 hm 1000 rfl g_25 rfl 8 (by decide) (hT _ k_598) (fun _ h9 => h9) rfl d_M_take_82 ?_
        refine lv_iload_n hx hb d_M_take_85 rfl (lv_at hl 2 rfl) ?_
        refine lv_iconst (v := 1) hx hb d_M_take_86 (by decide) ?_
        refine m_zast hx hb hC.1 hm 1008 rfl 2 g_31 rfl (by exact vp_in_nI (by omega) (by decide)) d_M_take_87 (fun H locs hm => ?_)
        rw [show (nI t).toNatClampNeg = t by rw [nI_clamp (by omega)]] at hm
        obtain ⟨G_45, eG_45⟩ : ∃ z : mG, z = va_up G_24 1008 (some (.inl ((dA 2), 12, .inl (upd (A 8) t 1)))) := ⟨_, rfl⟩
        have hm : mS D mCl (mA ad G s.heap.size) s.heap ad G_45 H locs := by rw [eG_45]; exact hm
        have g_46 := (congrFun eG_45 1000).trans ((va_up_ne _ _ (by decide)).trans g_25)
        have g_47 := (congrFun eG_45 1003).trans ((va_up_ne _ _ (by decide)).trans g_26)
        have g_48 := (congrFun eG_45 1004).trans ((va_up_ne _ _ (by decide)).trans g_27)
        have g_49 := (congrFun eG_45 1005).trans ((va_up_ne _ _ (by decide)).trans g_28)
        have g_50 := (congrFun eG_45 1006).trans ((va_up_ne _ _ (by decide)).trans g_29)
        have g_51 := (congrFun eG_45 1007).trans ((va_up_ne _ _ (by decide)).trans g_30)
        have g_52 : G_45 1008 = some (.inl ((dA 2), 12, .inl (upd (A 8) t 1))) := by rw [eG_45, va_up_self]
        have g_53 := (congrFun eG_45 1009).trans ((va_up_ne _ _ (by decide)).trans g_32)
        have g_54 := (congrFun eG_45 1010).trans ((va_up_ne _ _ (by decide)).trans g_33)
        have g_55 := (congrFun eG_45 1011).trans ((va_up_ne _ _ (by decide)).trans g_34)
        have g_56 := (congrFun eG_45 1012).trans ((va_up_ne _ _ (by decide)).trans g_35)
        have g_57 := (congrFun eG_45 1013).trans ((va_up_ne _ _ (by decide)).trans g_36)
        have g_58 := (congrFun eG_45 1014).trans ((va_up_ne _ _ (by decide)).trans g_37)
        have g_59 := (congrFun eG_45 1015).trans ((va_up_ne _ _ (by decide)).trans g_38)
        have g_60 := (congrFun eG_45 1016).trans ((va_up_ne _ _ (by decide)).trans g_39)
        have g_61 := (congrFun eG_45 1021).trans ((va_up_ne _ _ (by decide)).trans g_40)
        have g_62 := (congrFun eG_45 1022).trans ((va_up_ne _ _ (by decide)).trans g_41)
        have g_63 := (congrFun eG_45 1023).trans ((va_up_ne _ _ (by decide)).trans g_42)
        have g_64 := (congrFun eG_45 1024).trans ((va_up_ne _ _ (by decide)).trans g_43)
        have g_65 := (congrFun eG_45 1025).trans ((va_up_ne _ _ (by decide)).trans g_44)
        have hG : G_45 = gM dA ad (va_up A 8 (upd (A 8) t 1)) B (va_up S 0 0) sd G0 := by rw [eG_45, hG]; exact gM_u8 _
        refine lv_aload_n hx hb d_M_take_88 rfl (lv_at hl 0 rfl) ?_
        refine m_get (v := .int 0) (C := R_M) (T := T_M) (N := 28) hx hb hT in_M hown hC.1 hm 1000 rfl g_46 rfl 0 (by decide) (hT _ k_590) (fun _ h9 => h9) rfl d_M_take_89 ?_
        refine lv_if_le (tgt := 99) hx hb d_M_take_92 (by decide) (fun _ => ?_) (fun c9 => absurd (by decide) c9)
        refine lv_iload_n hx hb d_M_take_99 rfl (lv_at hl 2 rfl) ?_
        exact m_iret (v := nI t) hx hb hr hm (Or.inr (⟨bv_ne w_2 c_5, Or.inr ⟨t, htk, hob, rfl, by rw [hG]⟩⟩)) d_M_take_100 hlocks
    · have hk12 : k < tc := by
        have h9 := Int32.not_le.mp c_25
        rw [hS] at h9
        exact (nI_ltI (by omega) (by omega)).mp h9
      refine lv_aload_n hx hb d_M_take_28 rfl (lv_at hl 0 rfl) ?_
      refine m_get (v := .int 0) (C := R_M) (T := T_M) (N := 28) hx hb hT in_M hown hC.1 hm 1000 rfl g_25 rfl 0 (by decide) (hT _ k_590) (fun _ h9 => h9) rfl d_M_take_29 ?_
      refine lv_if_ne (tgt := 76) hx hb d_M_take_32 (by decide) (fun c9 => absurd c9 (by decide)) (fun _ => ?_)
      refine lv_aload_n hx hb d_M_take_35 rfl (lv_at hl 0 rfl) ?_
      refine lv_iload_n hx hb d_M_take_36 rfl (lv_at hl 3 rfl) ?_
      refine lv_iload_n hx hb d_M_take_37 rfl (lv_at hl 1 rfl) ?_
      refine m_roi (m_runV (As := [.int (nI k), .int p0]) (rest := []) ⟨hx, hb, hml, hown, hts⟩ (c_M_isSpare l D dA ad G_24 H.size A B (va_up S 0 0) sd G0 hG (nI k) p0 k (by omega) rfl) (cwV 2 hts (gV k_730 k_727 k_729 ks_9 k_4) rfl rfl rfl (by decide +kernel) ⟨Nat.le_of_ble_eq_true rfl, Nat.le_of_ble_eq_true rfl⟩) hm hA hC 1000 rfl g_25 rfl rfl rfl hl.1 rfl (Nat.le_of_ble_eq_true rfl) d_M_take_38 ⟨Nat.le_of_ble_eq_true rfl, Nat.le_of_ble_eq_true rfl⟩) hm hA (fun r_66 H locs w_67 hm => ?_)
      refine lv_if_eq (tgt := 68) hx hb d_M_take_41 (by decide) (fun c_41 => ?_) (fun c_41 => ?_)
      · have hP : ¬ mSp A B p0 k = true := fun q => bv_eq w_67 c_41 (of_decide_eq_true q)
        refine lv_iload_n hx hb d_M_take_68 rfl (lv_at hl 2 rfl) ?_
        rw [show mO (mNx (mSp A B p0) (A 4) k) = mO (mNx (mSp A B p0) (A 4) (k + 1)) from by rw [mNx_f hP]]
        refine lv_istore_n (lv' := [(2, .int (mO (mNx (mSp A B p0) (A 4) (k + 1)))), (0, .ref (ad 1000)), (1, .int p0), (3, .int (nI k))]) hx hb d_M_take_69 rfl hl (by decide) rfl (fun ls hl => ?_)
        refine lv_iinc (v := nI (k + 1)) (lv' := [(3, .int (nI (k + 1))), (2, .int (mO (mNx (mSp A B p0) (A 4) (k + 1)))), (0, .ref (ad 1000)), (1, .int p0)]) hx hb d_M_take_70 hl (k := 3) rfl (nI_1 _) (by decide) rfl (fun ls hl => ?_)
        refine lv_goto (tgt := 20) hx hb d_M_take_73 (by decide) ?_
        exact ih20 (k + 1) ls H locs (⟨by omega, by omega, trivial⟩) (lv_sub hl [2, 3, 1, 0] rfl) hm
      · have hP : mSp A B p0 k = true := decide_eq_true (bv_ne w_67 c_41)
        rcases mNx_or (mSp A B p0) (A 4) k with hob | ⟨t, htk, hpt, hob⟩
        · have hl : lv_has ls 4 [(0, .ref (ad 1000)), (1, .int p0), (2, .int (-1)), (3, .int (nI k))] := by rw [hob] at hl; exact hl
          refine lv_iload_n hx hb d_M_take_44 rfl (lv_at hl 2 rfl) ?_
          refine lv_iconst (v := (-1)) hx hb d_M_take_45 (by decide) ?_
          refine lv_icmp_eq (tgt := 64) hx hb d_M_take_46 (by decide) (fun _ => ?_) (fun c9 => absurd (by decide) c9)
          refine lv_iload_n hx hb d_M_take_64 rfl (lv_at hl 3 rfl) ?_
          refine lv_goto (tgt := 69) hx hb d_M_take_65 (by decide) ?_
          rw [show nI k = mO (mNx (mSp A B p0) (A 4) (k + 1)) from by rw [mNx_n hob hP]; rfl]
          refine lv_istore_n (lv' := [(2, .int (mO (mNx (mSp A B p0) (A 4) (k + 1)))), (0, .ref (ad 1000)), (1, .int p0), (3, .int (nI k))]) hx hb d_M_take_69 rfl hl (by decide) rfl (fun ls hl => ?_)
          refine lv_iinc (v := nI (k + 1)) (lv' := [(3, .int (nI (k + 1))), (2, .int (mO (mNx (mSp A B p0) (A 4) (k + 1)))), (0, .ref (ad 1000)), (1, .int p0)]) hx hb d_M_take_70 hl (k := 3) rfl (nI_1 _) (by decide) rfl (fun ls hl => ?_)
          refine lv_goto (tgt := 20) hx hb d_M_take_73 (by decide) ?_
          exact ih20 (k + 1) ls H locs (⟨by omega, by omega, trivial⟩) (lv_sub hl [2, 3, 1, 0] rfl) hm
        · have hl : lv_has ls 4 [(0, .ref (ad 1000)), (1, .int p0), (2, .int (nI t)), (3, .int (nI k))] := by rw [hob] at hl; exact hl
          refine lv_iload_n hx hb d_M_take_44 rfl (lv_at hl 2 rfl) ?_
          refine lv_iconst (v := (-1)) hx hb d_M_take_45 (by decide) ?_
          refine lv_icmp_eq (tgt := 64) hx hb d_M_take_46 (by decide) (fun c9 => absurd c9 (nI_nm1 (by omega))) (fun _ => ?_)
          refine lv_aload_n hx hb d_M_take_49 rfl (lv_at hl 0 rfl) ?_
          refine m_get (v := .ref (ad 1004)) (C := R_M) (T := T_M) (N := 28) hx hb hT in_M hown hC.1 hm 1000 rfl g_25 rfl 4 (by decide) (hT _ k_594) (fun _ h9 => h9) rfl d_M_take_50 ?_
          refine lv_iload_n hx hb d_M_take_53 rfl (lv_at hl 3 rfl) ?_
          refine m_iald (v := A 4 k) hx hb hC.1 hm 1004 rfl 0 g_27 rfl (by exact vp_in_nI (by omega) (by decide)) (by rw [nI_clamp (by omega)]) d_M_take_54 ?_
          refine lv_aload_n hx hb d_M_take_55 rfl (lv_at hl 0 rfl) ?_
          refine m_get (v := .ref (ad 1004)) (C := R_M) (T := T_M) (N := 28) hx hb hT in_M hown hC.1 hm 1000 rfl g_25 rfl 4 (by decide) (hT _ k_594) (fun _ h9 => h9) rfl d_M_take_56 ?_
          refine lv_iload_n hx hb d_M_take_59 rfl (lv_at hl 2 rfl) ?_
          refine m_iald (v := A 4 t) hx hb hC.1 hm 1004 rfl 0 g_27 rfl (by exact vp_in_nI (by omega) (by decide)) (by rw [nI_clamp (by omega)]) d_M_take_60 ?_
          refine lv_icmp_ge (tgt := 68) hx hb d_M_take_61 (by decide) (fun c_61 => ?_) (fun c_61 => ?_)
          · refine lv_iload_n hx hb d_M_take_68 rfl (lv_at hl 2 rfl) ?_
            rw [show nI t = mO (mNx (mSp A B p0) (A 4) (k + 1)) from by rw [mNx_l hob (Int32.not_lt.mpr c_61), hob]; rfl]
            refine lv_istore_n (lv' := [(2, .int (mO (mNx (mSp A B p0) (A 4) (k + 1)))), (0, .ref (ad 1000)), (1, .int p0), (3, .int (nI k))]) hx hb d_M_take_69 rfl hl (by decide) rfl (fun ls hl => ?_)
            refine lv_iinc (v := nI (k + 1)) (lv' := [(3, .int (nI (k + 1))), (2, .int (mO (mNx (mSp A B p0) (A 4) (k + 1)))), (0, .ref (ad 1000)), (1, .int p0)]) hx hb d_M_take_70 hl (k := 3) rfl (nI_1 _) (by decide) rfl (fun ls hl => ?_)
            refine lv_goto (tgt := 20) hx hb d_M_take_73 (by decide) ?_
            exact ih20 (k + 1) ls H locs (⟨by omega, by omega, trivial⟩) (lv_sub hl [2, 3, 1, 0] rfl) hm
          · refine lv_iload_n hx hb d_M_take_64 rfl (lv_at hl 3 rfl) ?_
            refine lv_goto (tgt := 69) hx hb d_M_take_65 (by decide) ?_
            rw [show nI k = mO (mNx (mSp A B p0) (A 4) (k + 1)) from by rw [mNx_s hob hP (Int32.not_le.mp c_61)]; rfl]
            refine lv_istore_n (lv' := [(2, .int (mO (mNx (mSp A B p0) (A 4) (k + 1)))), (0, .ref (ad 1000)), (1, .int p0), (3, .int (nI k))]) hx hb d_M_take_69 rfl hl (by decide) rfl (fun ls hl => ?_)
            refine lv_iinc (v := nI (k + 1)) (lv' := [(3, .int (nI (k + 1))), (2, .int (mO (mNx (mSp A B p0) (A 4) (k + 1)))), (0, .ref (ad 1000)), (1, .int p0)]) hx hb d_M_take_70 hl (k := 3) rfl (nI_1 _) (by decide) rfl (fun ls hl => ?_)
            refine lv_goto (tgt := 20) hx hb d_M_take_73 (by decide) ?_
            exact ih20 (k + 1) ls H locs (⟨by omega, by omega, trivial⟩) (lv_sub hl [2, 3, 1, 0] rfl) hm

set_option maxHeartbeats 4000000 in
set_option maxRecDepth 100000 in
theorem c_M_bring (l : Launch) (D : va_G) (dA : Nat → ClassId) (ad : Nat → Nat) (G : mG) (sz : Nat) (A : Nat → Nat → Int32) (B : Nat → Nat → Int64) (S : Nat → Int32) (sd : Int64) (G0 : mG) (hG : G = gM dA ad A B S sd G0) (tc : Nat) (hS : S 2 = nI tc) (ht : tc ≤ 12) (hz : ∀ i, i < 12 → A 8 i = 0 ∨ A 8 i = 1) (p0 : Int32) : Met l y_M_bring (.code y_M_bring b_M_bring 3 (some .boolean) :: mBig) ({ frames := 1, cells := 0, slots := 0, locals := 21 }) (mPc [.ref (ad 1000), .int p0] D mCl (mTys dA) mTx ad G sz) (mQi (fun (rv : Int32) (u : mU) => ((¬ (∃ i, i < tc ∧ p0 = nI i) ∧ u = (ad, gM dA ad A B (va_up S 0 1) sd G0)) ∨ (∃ t, t < tc ∧ p0 = nI t ∧ rv = A 8 t ∧ u = (ad, gM dA ad (va_up A 8 (upd (A 8) t 0)) B (va_up S 0 0) sd G0)))) D mCl ad G sz) 0 0 (mA ad G sz) := by
  refine Met.ofW (cc := b_M_bring) (maxL := 3) (ret := (some .boolean)) (by decide) rfl ?_
  intro p e s m args below meth c s₁ BB hml hv
  obtain ⟨rfl, hsz, hw0, hC⟩ := hv
  have hx := BB.exec
  have hb := BB.bytes
  have hr := BB.returns
  have hts := atoms_spec (ws := .code y_M_bring b_M_bring 3 (some .boolean) :: mBig) BB.pre
  have hT : ∀ w ∈ mBig, w.before _ s = true := fun w h => hts w (List.mem_cons_of_mem _ h)
  have hown : s.vm.findClass "EdgeWearModel" = some m.cls := findClass_of_methodNamed BB.named
  have hlocks := BB.notSynchronized
  subst hsz
  have hm := mS.start hw0
  have hA : ∀ q : Nat, s.heap.size ≤ q → mA ad G s.heap.size q := fun q h => Or.inr h
  have hl := lv_entry ([.ref (ad 1000), .int p0]) (n := 3) (Nat.le_of_ble_eq_true rfl)
  rw [lg_entry_eq]
  generalize (lg_sl ([.ref (ad 1000), .int p0]) ++ List.replicate (3 - (lg_sl ([.ref (ad 1000), .int p0])).length) Slot.unset).toArray = ls at hl ⊢
  have hl : lv_has ls 3 [(0, .ref (ad 1000)), (1, .int p0)] := hl
  refine lv_aload_n hx hb d_M_bring_0 rfl (lv_at hl 0 rfl) ?_
  refine lv_aload_n hx hb d_M_bring_1 rfl (lv_at hl 0 rfl) ?_
  refine lv_iload_n hx hb d_M_bring_2 rfl (lv_at hl 1 rfl) ?_
  refine m_roi (m_runV (As := [.int p0]) (rest := [.ref (ad 1000)]) ⟨hx, hb, hml, hown, hts⟩ (c_M_noTool l D dA ad G s.heap.size A B S sd G0 hG tc hS ht p0) (cwV 1 hts (gV k_708 k_705 k_707 ks_7 k_4) rfl rfl rfl (by decide +kernel) ⟨Nat.le_of_ble_eq_true rfl, Nat.le_of_ble_eq_true rfl⟩) hm hA hC 1000 rfl ((congrFun hG 1000).trans gM_o) rfl rfl rfl hl.1 rfl (Nat.le_of_ble_eq_true rfl) d_M_bring_3 ⟨Nat.le_of_ble_eq_true rfl, Nat.le_of_ble_eq_true rfl⟩) hm hA (fun r_1 H locs w_2 hm => ?_)
  refine lv_if_eq (tgt := 13) hx hb d_M_bring_6 (by decide) (fun c_6 => ?_) (fun c_6 => ?_)
  · refine lv_iconst (v := 0) hx hb d_M_bring_13 (by decide) ?_
    refine m_put (v := .int 0) (ty := .int) (C := R_M) (T := T_M) (N := 28) hx hb hT in_M t_M tok_M nm_M hown hC.1 hm 1000 rfl ((congrFun hG 1000).trans gM_o) rfl 0 (by decide) (hT _ k_590) (fun _ h9 => h9) rfl (by decide +kernel) rfl rfl (Nat.le_of_ble_eq_true rfl) d_M_bring_14 (fun H locs hm => ?_)
    obtain ⟨G_3, eG_3⟩ : ∃ z : mG, z = va_up G 1000 (some (.inr (6, [.int 0, .long sd, .int (S 2), .ref (ad 1003), .ref (ad 1004), .ref (ad 1005), .ref (ad 1006), .ref (ad 1007), .ref (ad 1008), .ref (ad 1009), .ref (ad 1010), .ref (ad 1011), .ref (ad 1012), .ref (ad 1013), .ref (ad 1014), .ref (ad 1015), .ref (ad 1016), .int (S 17), .int (S 18), .int (S 19), .int (S 20), .ref (ad 1021), .ref (ad 1022), .ref (ad 1023), .ref (ad 1024), .ref (ad 1025), .int (S 26), .int (S 27)]))) := ⟨_, rfl⟩
    have hm : mS D mCl (mA ad G s.heap.size) s.heap ad G_3 H locs := by rw [eG_3]; exact hm
    have g_4 : G_3 1000 = some (.inr (6, [.int 0, .long sd, .int (S 2), .ref (ad 1003), .ref (ad 1004), .ref (ad 1005), .ref (ad 1006), .ref (ad 1007), .ref (ad 1008), .ref (ad 1009), .ref (ad 1010), .ref (ad 1011), .ref (ad 1012), .ref (ad 1013), .ref (ad 1014), .ref (ad 1015), .ref (ad 1016), .int (S 17), .int (S 18), .int (S 19), .int (S 20), .ref (ad 1021), .ref (ad 1022), .ref (ad 1023), .ref (ad 1024), .ref (ad 1025), .int (S 26), .int (S 27)])) := by rw [eG_3, va_up_self]
    have g_5 := (congrFun eG_3 1003).trans ((va_up_ne _ _ (by decide)).trans ((congrFun hG 1003).trans gM_3))
    have g_6 := (congrFun eG_3 1004).trans ((va_up_ne _ _ (by decide)).trans ((congrFun hG 1004).trans gM_4))
    have g_7 := (congrFun eG_3 1005).trans ((va_up_ne _ _ (by decide)).trans ((congrFun hG 1005).trans gM_5))
    have g_8 := (congrFun eG_3 1006).trans ((va_up_ne _ _ (by decide)).trans ((congrFun hG 1006).trans gM_6))
    have g_9 := (congrFun eG_3 1007).trans ((va_up_ne _ _ (by decide)).trans ((congrFun hG 1007).trans gM_7))
    have g_10 := (congrFun eG_3 1008).trans ((va_up_ne _ _ (by decide)).trans ((congrFun hG 1008).trans gM_8))
    have g_11 := (congrFun eG_3 1009).trans ((va_up_ne _ _ (by decide)).trans ((congrFun hG 1009).trans gM_9))
    have g_12 := (congrFun eG_3 1010).trans ((va_up_ne _ _ (by decide)).trans ((congrFun hG 1010).trans gM_10))
    have g_13 := (congrFun eG_3 1011).trans ((va_up_ne _ _ (by decide)).trans ((congrFun hG 1011).trans gM_11))
    have g_14 := (congrFun eG_3 1012).trans ((va_up_ne _ _ (by decide)).trans ((congrFun hG 1012).trans gM_12))
    have g_15 := (congrFun eG_3 1013).trans ((va_up_ne _ _ (by decide)).trans ((congrFun hG 1013).trans gM_13))
    have g_16 := (congrFun eG_3 1014).trans ((va_up_ne _ _ (by decide)).trans ((congrFun hG 1014).trans gM_14))
    have g_17 := (congrFun eG_3 1015).trans ((va_up_ne _ _ (by decide)).trans ((congrFun hG 1015).trans gM_15))
    have g_18 := (congrFun eG_3 1016).trans ((va_up_ne _ _ (by decide)).trans ((congrFun hG 1016).trans gM_16))
    have g_19 := (congrFun eG_3 1021).trans ((va_up_ne _ _ (by decide)).trans ((congrFun hG 1021).trans gM_21))
    have g_20 := (congrFun eG_3 1022).trans ((va_up_ne _ _ (by decide)).trans ((congrFun hG 1022).trans gM_22))
    have g_21 := (congrFun eG_3 1023).trans ((va_up_ne _ _ (by decide)).trans ((congrFun hG 1023).trans gM_23))
    have g_22 := (congrFun eG_3 1024).trans ((va_up_ne _ _ (by decide)).trans ((congrFun hG 1024).trans gM_24))
    have g_23 := (congrFun eG_3 1025).trans ((va_up_ne _ _ (by decide)).trans ((congrFun hG 1025).trans gM_25))
    have hG : G_3 = gM dA ad A B (va_up S 0 0) sd G0 := by rw [eG_3, hG]; exact gM_uo (va_up S 0 0)
    refine lv_aload_n hx hb d_M_bring_17 rfl (lv_at hl 0 rfl) ?_
    refine m_get (v := .int 0) (C := R_M) (T := T_M) (N := 28) hx hb hT in_M hown hC.1 hm 1000 rfl g_4 rfl 0 (by decide) (hT _ k_590) (fun _ h9 => h9) rfl d_M_bring_18 ?_
    refine lv_if_le (tgt := 26) hx hb d_M_bring_21 (by decide) (fun _ => ?_) (fun c9 => absurd (by decide) c9)
    obtain ⟨t, ht2, ep⟩ := Classical.not_not.mp (bv_eq w_2 c_6)
    refine lv_aload_n hx hb d_M_bring_26 rfl (lv_at hl 0 rfl) ?_
    refine m_get (v := .ref (ad 1008)) (C := R_M) (T := T_M) (N := 28) hx hb hT in_M hown hC.1 hm 1000 rfl g_4 rfl 8 (by decide) (hT _ k_598) (fun _ h9 => h9) rfl d_M_bring_27 ?_
    refine lv_iload_n hx hb d_M_bring_30 rfl (lv_at hl 1 rfl) ?_
    refine m_zald (v := A 8 t) hx hb hC.1 hm 1008 rfl 2 g_10 rfl (by rw [ep]; exact vp_in_nI (by omega) (by decide)) (by rw [ep, nI_clamp (by omega)]) d_M_bring_31 ?_
    refine lv_istore_n (lv' := [(2, .int (A 8 t)), (0, .ref (ad 1000)), (1, .int p0)]) hx hb d_M_bring_32 rfl hl (by decide) rfl (fun ls hl => ?_)
    refine lv_aload_n hx hb d_M_bring_33 rfl (lv_at hl 1 rfl) ?_
    refine m_get (v := .ref (ad 1008)) (C := R_M) (T := T_M) (N := 28) hx hb hT in_M hown hC.1 hm 1000 rfl g_4 rfl 8 (by decide) (hT _ k_598) (fun _ h9 => h9) rfl d_M_bring_34 ?_
    refine lv_iload_n hx hb d_M_bring_37 rfl (lv_at hl 2 rfl) ?_
    refine lv_iconst (v := 0) hx hb d_M_bring_38 (by decide) ?_
    refine m_zast hx hb hC.1 hm 1008 rfl 2 g_10 rfl (by rw [ep]; exact vp_in_nI (by omega) (by decide)) d_M_bring_39 (fun H locs hm => ?_)
    rw [show (p0).toNatClampNeg = t by rw [ep, nI_clamp (by omega)]] at hm
    obtain ⟨G_24, eG_24⟩ : ∃ z : mG, z = va_up G_3 1008 (some (.inl ((dA 2), 12, .inl (upd (A 8) t 0)))) := ⟨_, rfl⟩
    have hm : mS D mCl (mA ad G s.heap.size) s.heap ad G_24 H locs := by rw [eG_24]; exact hm
    have g_25 := (congrFun eG_24 1000).trans ((va_up_ne _ _ (by decide)).trans g_4)
    have g_26 := (congrFun eG_24 1003).trans ((va_up_ne _ _ (by decide)).trans g_5)
    have g_27 := (congrFun eG_24 1004).trans ((va_up_ne _ _ (by decide)).trans g_6)
    have g_28 := (congrFun eG_24 1005).trans ((va_up_ne _ _ (by decide)).trans g_7)
    have g_29 := (congrFun eG_24 1006).trans ((va_up_ne _ _ (by decide)).trans g_8)
    have g_30 := (congrFun eG_24 1007).trans ((va_up_ne _ _ (by decide)).trans g_9)
    have g_31 : G_24 1008 = some (.inl ((dA 2), 12, .inl (upd (A 8) t 0))) := by rw [eG_24, va_up_self]
    have g_32 := (congrFun eG_24 1009).trans ((va_up_ne _ _ (by decide)).trans g_11)
    have g_33 := (congrFun eG_24 1010).trans ((va_up_ne _ _ (by decide)).trans g_12)
    have g_34 := (congrFun eG_24 1011).trans ((va_up_ne _ _ (by decide)).trans g_13)
    have g_35 := (congrFun eG_24 1012).trans ((va_up_ne _ _ (by decide)).trans g_14)
    have g_36 := (congrFun eG_24 1013).trans ((va_up_ne _ _ (by decide)).trans g_15)
    have g_37 := (congrFun eG_24 1014).trans ((va_up_ne _ _ (by decide)).trans g_16)
    have g_38 := (congrFun eG_24 1015).trans ((va_up_ne _ _ (by decide)).trans g_17)
    have g_39 := (congrFun eG_24 1016).trans ((va_up_ne _ _ (by decide)).trans g_18)
    have g_40 := (congrFun eG_24 1021).trans ((va_up_ne _ _ (by decide)).trans g_19)
    have g_41 := (congrFun eG_24 1022).trans ((va_up_ne _ _ (by decide)).trans g_20)
    have g_42 := (congrFun eG_24 1023).trans ((va_up_ne _ _ (by decide)).trans g_21)
    have g_43 := (congrFun eG_24 1024).trans ((va_up_ne _ _ (by decide)).trans g_22)
    have g_44 := (congrFun eG_24 1025).trans ((va_up_ne _ _ (by decide)).trans g_23)
    have hG : G_24 = gM dA ad (va_up A 8 (upd (A 8) t 0)) B (va_up S 0 0) sd G0 := by rw [eG_24, hG]; exact gM_u8 _
    refine lv_iload_n hx hb d_M_bring_40 rfl (lv_at hl 0 rfl) ?_
    exact m_zret (v := A 8 t) hx hb hr (by rcases hz t (by omega) with h9 | h9 <;> rw [h9] <;> rfl) hm (Or.inr (⟨t, ht2, ep, rfl, by rw [hG]⟩)) d_M_bring_41 hlocks
  · refine lv_iconst (v := 1) hx hb d_M_bring_9 (by decide) ?_
    refine lv_goto (tgt := 14) hx hb d_M_bring_10 (by decide) ?_
    refine m_put (v := .int 1) (ty := .int) (C := R_M) (T := T_M) (N := 28) hx hb hT in_M t_M tok_M nm_M hown hC.1 hm 1000 rfl ((congrFun hG 1000).trans gM_o) rfl 0 (by decide) (hT _ k_590) (fun _ h9 => h9) rfl (by decide +kernel) rfl rfl (Nat.le_of_ble_eq_true rfl) d_M_bring_14 (fun H locs hm => ?_)
    obtain ⟨G_45, eG_45⟩ : ∃ z : mG, z = va_up G 1000 (some (.inr (6, [.int 1, .long sd, .int (S 2), .ref (ad 1003), .ref (ad 1004), .ref (ad 1005), .ref (ad 1006), .ref (ad 1007), .ref (ad 1008), .ref (ad 1009), .ref (ad 1010), .ref (ad 1011), .ref (ad 1012), .ref (ad 1013), .ref (ad 1014), .ref (ad 1015), .ref (ad 1016), .int (S 17), .int (S 18), .int (S 19), .int (S 20), .ref (ad 1021), .ref (ad 1022), .ref (ad 1023), .ref (ad 1024), .ref (ad 1025), .int (S 26), .int (S 27)]))) := ⟨_, rfl⟩
    have hm : mS D mCl (mA ad G s.heap.size) s.heap ad G_45 H locs := by rw [eG_45]; exact hm
    have g_46 : G_45 1000 = some (.inr (6, [.int 1, .long sd, .int (S 2), .ref (ad 1003), .ref (ad 1004), .ref (ad 1005), .ref (ad 1006), .ref (ad 1007), .ref (ad 1008), .ref (ad 1009), .ref (ad 1010), .ref (ad 1011), .ref (ad 1012), .ref (ad 1013), .ref (ad 1014), .ref (ad 1015), .ref (ad 1016), .int (S 17), .int (S 18), .int (S 19), .int (S 20), .ref (ad 1021), .ref (ad 1022), .ref (ad 1023), .ref (ad 1024), .ref (ad 1025), .int (S 26), .int (S 27)])) := by rw [eG_45, va_up_self]
    have g_47 := (congrFun eG_45 1003).trans ((va_up_ne _ _ (by decide)).trans ((congrFun hG 1003).trans gM_3))
    have g_48 := (congrFun eG_45 1004).trans ((va_up_ne _ _ (by decide)).trans ((congrFun hG 1004).trans gM_4))
    have g_49 := (congrFun eG_45 1005).trans ((va_up_ne _ _ (by decide)).trans ((congrFun hG 1005).trans gM_5))
    have g_50 := (congrFun eG_45 1006).trans ((va_up_ne _ _ (by decide)).trans ((congrFun hG 1006).trans gM_6))
    have g_51 := (congrFun eG_45 1007).trans ((va_up_ne _ _ (by decide)).trans ((congrFun hG 1007).trans gM_7))
    have g_52 := (congrFun eG_45 1008).trans ((va_up_ne _ _ (by decide)).trans ((congrFun hG 1008).trans gM_8))
    have g_53 := (congrFun eG_45 1009).trans ((va_up_ne _ _ (by decide)).trans ((congrFun hG 1009).trans gM_9))
    have g_54 := (congrFun eG_45 1010).trans ((va_up_ne _ _ (by decide)).trans ((congrFun hG 1010).trans gM_10))
    have g_55 := (congrFun eG_45 1011).trans ((va_up_ne _ _ (by decide)).trans ((congrFun hG 1011).trans gM_11))
    have g_56 := (congrFun eG_45 1012).trans ((va_up_ne _ _ (by decide)).trans ((congrFun hG 1012).trans gM_12))
    have g_57 := (congrFun eG_45 1013).trans ((va_up_ne _ _ (by decide)).trans ((congrFun hG 1013).trans gM_13))
    have g_58 := (congrFun eG_45 1014).trans ((va_up_ne _ _ (by decide)).trans ((congrFun hG 1014).trans gM_14))
    have g_59 := (congrFun eG_45 1015).trans ((va_up_ne _ _ (by decide)).trans ((congrFun hG 1015).trans gM_15))
    have g_60 := (congrFun eG_45 1016).trans ((va_up_ne _ _ (by decide)).trans ((congrFun hG 1016).trans gM_16))
    have g_61 := (congrFun eG_45 1021).trans ((va_up_ne _ _ (by decide)).trans ((congrFun hG 1021).trans gM_21))
    have g_62 := (congrFun eG_45 1022).trans ((va_up_ne _ _ (by decide)).trans ((congrFun hG 1022).trans gM_22))
    have g_63 := (congrFun eG_45 1023).trans ((va_up_ne _ _ (by decide)).trans ((congrFun hG 1023).trans gM_23))
    have g_64 := (congrFun eG_45 1024).trans ((va_up_ne _ _ (by decide)).trans ((congrFun hG 1024).trans gM_24))
    have g_65 := (congrFun eG_45 1025).trans ((va_up_ne _ _ (by decide)).trans ((congrFun hG 1025).trans gM_25))
    have hG : G_45 = gM dA ad A B (va_up S 0 1) sd G0 := by rw [eG_45, hG]; exact gM_uo (va_up S 0 1)
    refine lv_aload_n hx hb d_M_bring_17 rfl (lv_at hl 0 rfl) ?_
    refine m_get (v := .int 1) (C := R_M) (T := T_M) (N := 28) hx hb hT in_M hown hC.1 hm 1000 rfl g_46 rfl 0 (by decide) (hT _ k_590) (fun _ h9 => h9) rfl d_M_bring_18 ?_
    refine lv_if_le (tgt := 26) hx hb d_M_bring_21 (by decide) (fun c9 => absurd c9 (by decide)) (fun _ => ?_)
    refine lv_iconst (v := 0) hx hb d_M_bring_24 (by decide) ?_
    exact m_zret (v := 0) hx hb hr rfl hm (Or.inl ⟨bv_ne w_2 c_6, by rw [hG]⟩) d_M_bring_25 hlocks

set_option maxHeartbeats 4000000 in
set_option maxRecDepth 100000 in
theorem c_M_life (l : Launch) (D : va_G) (dA : Nat → ClassId) (ad : Nat → Nat) (G : mG) (sz : Nat) (A : Nat → Nat → Int32) (B : Nat → Nat → Int64) (S : Nat → Int32) (sd : Int64) (G0 : mG) (hG : G = gM dA ad A B S sd G0) (hL : ∀ i, i < 4 → ∃ c, c ≤ 40 ∧ A 14 i = nI c) (p0 p1 : Int32) : Met l y_M_life (.code y_M_life b_M_life 3 (some .int) :: mBig) ({ frames := 1, cells := 0, slots := 0, locals := 25 }) (mPc [.ref (ad 1000), .int p0, .int p1] D mCl (mTys dA) mTx ad G sz) (mQi (fun (rv : Int32) (u : mU) => ((¬ (∃ i, i < 4 ∧ p0 = nI i) ∧ u = (ad, gM dA ad A B (va_up S 0 1) sd G0)) ∨ ((∃ i, i < 4 ∧ p0 = nI i) ∧ (p1 < 1 ∨ 1000 < p1) ∧ u = (ad, gM dA ad A B (va_up S 0 2) sd G0)) ∨ ((∃ i, i < 4 ∧ p0 = nI i ∧ A 14 i = nI 40) ∧ ¬ (p1 < 1 ∨ 1000 < p1) ∧ u = (ad, gM dA ad A B (va_up S 0 3) sd G0)) ∨ (∃ i kc, i < 4 ∧ p0 = nI i ∧ ¬ (p1 < 1 ∨ 1000 < p1) ∧ A 14 i = nI kc ∧ kc < 40 ∧ rv = nI (kc + 1) ∧ u = (ad, gM dA ad (va_up (va_up A 13 (upd (A 13) (40 * i + kc) p1)) 14 (upd (A 14) i (nI (kc + 1)))) B (va_up S 0 0) sd G0)))) D mCl ad G sz) 0 0 (mA ad G sz) := by
  refine Met.ofW (cc := b_M_life) (maxL := 3) (ret := (some .int)) (by decide) rfl ?_
  intro p e s m args below meth c s₁ BB hml hv
  obtain ⟨rfl, hsz, hw0, hC⟩ := hv
  have hx := BB.exec
  have hb := BB.bytes
  have hr := BB.returns
  have hts := atoms_spec (ws := .code y_M_life b_M_life 3 (some .int) :: mBig) BB.pre
  have hT : ∀ w ∈ mBig, w.before _ s = true := fun w h => hts w (List.mem_cons_of_mem _ h)
  have hown : s.vm.findClass "EdgeWearModel" = some m.cls := findClass_of_methodNamed BB.named
  have hlocks := BB.notSynchronized
  subst hsz
  have hm := mS.start hw0
  have hA : ∀ q : Nat, s.heap.size ≤ q → mA ad G s.heap.size q := fun q h => Or.inr h
  have hl := lv_entry ([.ref (ad 1000), .int p0, .int p1]) (n := 3) (Nat.le_of_ble_eq_true rfl)
  rw [lg_entry_eq]
  generalize (lg_sl ([.ref (ad 1000), .int p0, .int p1]) ++ List.replicate (3 - (lg_sl ([.ref (ad 1000), .int p0, .int p1])).length) Slot.unset).toArray = ls at hl ⊢
  have hl : lv_has ls 3 [(0, .ref (ad 1000)), (1, .int p0), (2, .int p1)] := hl
  refine lv_aload_n hx hb d_M_life_0 rfl (lv_at hl 0 rfl) ?_
  refine lv_iload_n hx hb d_M_life_1 rfl (lv_at hl 1 rfl) ?_
  refine m_roi (m_runS (As := [.int p0]) (rest := [.ref (ad 1000)]) ⟨hx, hb, hml, hown, hts⟩ (c_M_isFour l D dA ad G s.heap.size p0) (va_cwS 1 hts (gS k_687 k_685 k_686 k_4) rfl rfl rfl (by decide +kernel) ⟨Nat.le_of_ble_eq_true rfl, Nat.le_of_ble_eq_true rfl⟩) hm hA hC rfl hl.1 rfl (Nat.le_of_ble_eq_true rfl) d_M_life_2 ⟨Nat.le_of_ble_eq_true rfl, Nat.le_of_ble_eq_true rfl⟩) hm hA (fun r_1 H locs w_2 hm => ?_)
  refine lv_if_ne (tgt := 12) hx hb d_M_life_5 (by decide) (fun c_5 => ?_) (fun c_5 => ?_)
  · refine lv_iload_n hx hb d_M_life_12 rfl (lv_at hl 2 rfl) ?_
    refine lv_i2l hx hb d_M_life_13 rfl ?_
    refine lv_topl (fun x_3 ex_3 => ?_)
    refine lv_lconst (v := 1) hx hb d_M_life_14 (by decide) ?_
    refine lv_ldc2 (v := 1000) hx hb hown (hT _ k_743) d_M_life_15 ?_
    refine m_roi (m_runS (As := [.long x_3, .long 1, .long 1000]) (rest := [.ref (ad 1000)]) ⟨hx, hb, hml, hown, hts⟩ (c_M_isIn l D dA ad G H.size x_3 1 1000) (va_cwS 3 hts (gS k_690 k_688 k_689 k_4) rfl rfl rfl (by decide +kernel) ⟨Nat.le_of_ble_eq_true rfl, Nat.le_of_ble_eq_true rfl⟩) hm hA hC rfl hl.1 rfl (Nat.le_of_ble_eq_true rfl) d_M_life_18 ⟨Nat.le_of_ble_eq_true rfl, Nat.le_of_ble_eq_true rfl⟩) hm hA (fun r_4 H locs w_5 hm => ?_)
    refine lv_if_ne (tgt := 28) hx hb d_M_life_21 (by decide) (fun c_21 => ?_) (fun c_21 => ?_)
    · obtain ⟨i, hi, epi⟩ := bv_ne w_2 c_5
      obtain ⟨kc, hkc, ekc⟩ := hL i hi
      refine lv_aload_n hx hb d_M_life_28 rfl (lv_at hl 0 rfl) ?_
      refine m_get (v := .ref (ad 1014)) (C := R_M) (T := T_M) (N := 28) hx hb hT in_M hown hC.1 hm 1000 rfl ((congrFun hG 1000).trans gM_o) rfl 14 (by decide) (hT _ k_604) (fun _ h9 => h9) rfl d_M_life_29 ?_
      refine lv_iload_n hx hb d_M_life_32 rfl (lv_at hl 1 rfl) ?_
      refine m_iald (v := A 14 i) hx hb hC.1 hm 1014 rfl 0 ((congrFun hG 1014).trans gM_14) rfl (by rw [epi]; exact vp_in_nI (by omega) (by decide)) (by rw [epi, nI_clamp (by omega)]) d_M_life_33 ?_
      refine lv_bipush (v := 40) hx hb d_M_life_34 (by decide) ?_
      refine lv_icmp_ne (tgt := 43) hx hb d_M_life_36 (by decide) (fun c_36 => ?_) (fun c_36 => ?_)
      · refine lv_iconst (v := 0) hx hb d_M_life_43 (by decide) ?_
        refine m_put (v := .int 0) (ty := .int) (C := R_M) (T := T_M) (N := 28) hx hb hT in_M t_M tok_M nm_M hown hC.1 hm 1000 rfl ((congrFun hG 1000).trans gM_o) rfl 0 (by decide) (hT _ k_590) (fun _ h9 => h9) rfl (by decide +kernel) rfl rfl (Nat.le_of_ble_eq_true rfl) d_M_life_44 (fun H locs hm => ?_)
        obtain ⟨G_6, eG_6⟩ : ∃ z : mG, z = va_up G 1000 (some (.inr (6, [.int 0, .long sd, .int (S 2), .ref (ad 1003), .ref (ad 1004), .ref (ad 1005), .ref (ad 1006), .ref (ad 1007), .ref (ad 1008), .ref (ad 1009), .ref (ad 1010), .ref (ad 1011), .ref (ad 1012), .ref (ad 1013), .ref (ad 1014), .ref (ad 1015), .ref (ad 1016), .int (S 17), .int (S 18), .int (S 19), .int (S 20), .ref (ad 1021), .ref (ad 1022), .ref (ad 1023), .ref (ad 1024), .ref (ad 1025), .int (S 26), .int (S 27)]))) := ⟨_, rfl⟩
        have hm : mS D mCl (mA ad G s.heap.size) s.heap ad G_6 H locs := by rw [eG_6]; exact hm
        have g_7 : G_6 1000 = some (.inr (6, [.int 0, .long sd, .int (S 2), .ref (ad 1003), .ref (ad 1004), .ref (ad 1005), .ref (ad 1006), .ref (ad 1007), .ref (ad 1008), .ref (ad 1009), .ref (ad 1010), .ref (ad 1011), .ref (ad 1012), .ref (ad 1013), .ref (ad 1014), .ref (ad 1015), .ref (ad 1016), .int (S 17), .int (S 18), .int (S 19), .int (S 20), .ref (ad 1021), .ref (ad 1022), .ref (ad 1023), .ref (ad 1024), .ref (ad 1025), .int (S 26), .int (S 27)])) := by rw [eG_6, va_up_self]
        have g_8 := (congrFun eG_6 1003).trans ((va_up_ne _ _ (by decide)).trans ((congrFun hG 1003).trans gM_3))
        have g_9 := (congrFun eG_6 1004).trans ((va_up_ne _ _ (by decide)).trans ((congrFun hG 1004).trans gM_4))
        have g_10 := (congrFun eG_6 1005).trans ((va_up_ne _ _ (by decide)).trans ((congrFun hG 1005).trans gM_5))
        have g_11 := (congrFun eG_6 1006).trans ((va_up_ne _ _ (by decide)).trans ((congrFun hG 1006).trans gM_6))
        have g_12 := (congrFun eG_6 1007).trans ((va_up_ne _ _ (by decide)).trans ((congrFun hG 1007).trans gM_7))
        have g_13 := (congrFun eG_6 1008).trans ((va_up_ne _ _ (by decide)).trans ((congrFun hG 1008).trans gM_8))
        have g_14 := (congrFun eG_6 1009).trans ((va_up_ne _ _ (by decide)).trans ((congrFun hG 1009).trans gM_9))
        have g_15 := (congrFun eG_6 1010).trans ((va_up_ne _ _ (by decide)).trans ((congrFun hG 1010).trans gM_10))
        have g_16 := (congrFun eG_6 1011).trans ((va_up_ne _ _ (by decide)).trans ((congrFun hG 1011).trans gM_11))
        have g_17 := (congrFun eG_6 1012).trans ((va_up_ne _ _ (by decide)).trans ((congrFun hG 1012).trans gM_12))
        have g_18 := (congrFun eG_6 1013).trans ((va_up_ne _ _ (by decide)).trans ((congrFun hG 1013).trans gM_13))
        have g_19 := (congrFun eG_6 1014).trans ((va_up_ne _ _ (by decide)).trans ((congrFun hG 1014).trans gM_14))
        have g_20 := (congrFun eG_6 1015).trans ((va_up_ne _ _ (by decide)).trans ((congrFun hG 1015).trans gM_15))
        have g_21 := (congrFun eG_6 1016).trans ((va_up_ne _ _ (by decide)).trans ((congrFun hG 1016).trans gM_16))
        have g_22 := (congrFun eG_6 1021).trans ((va_up_ne _ _ (by decide)).trans ((congrFun hG 1021).trans gM_21))
        have g_23 := (congrFun eG_6 1022).trans ((va_up_ne _ _ (by decide)).trans ((congrFun hG 1022).trans gM_22))
        have g_24 := (congrFun eG_6 1023).trans ((va_up_ne _ _ (by decide)).trans ((congrFun hG 1023).trans gM_23))
        have g_25 := (congrFun eG_6 1024).trans ((va_up_ne _ _ (by decide)).trans ((congrFun hG 1024).trans gM_24))
        have g_26 := (congrFun eG_6 1025).trans ((va_up_ne _ _ (by decide)).trans ((congrFun hG 1025).trans gM_25))
        have hG : G_6 = gM dA ad A B (va_up S 0 0) sd G0 := by rw [eG_6, hG]; exact gM_uo (va_up S 0 0)
        refine lv_aload_n hx hb d_M_life_47 rfl (lv_at hl 0 rfl) ?_
        refine m_get (v := .int 0) (C := R_M) (T := T_M) (N := 28) hx hb hT in_M hown hC.1 hm 1000 rfl g_7 rfl 0 (by decide) (hT _ k_590) (fun _ h9 => h9) rfl d_M_life_48 ?_
        refine lv_if_le (tgt := 56) hx hb d_M_life_51 (by decide) (fun _ => ?_) (fun c9 => absurd (by decide) c9)
        have hk40 : kc < 40 := by
          have : ¬ kc = 40 := fun q => c_36 (by rw [ekc, q]; rfl)
          omega
        refine lv_aload_n hx hb d_M_life_56 rfl (lv_at hl 0 rfl) ?_
        refine m_get (v := .ref (ad 1013)) (C := R_M) (T := T_M) (N := 28) hx hb hT in_M hown hC.1 hm 1000 rfl g_7 rfl 13 (by decide) (hT _ k_603) (fun _ h9 => h9) rfl d_M_life_57 ?_
        refine lv_bipush (v := 40) hx hb d_M_life_60 (by decide) ?_
        refine lv_iload_n hx hb d_M_life_62 rfl (lv_at hl 1 rfl) ?_
        refine lv_imul hx hb d_M_life_63 ?_
        refine lv_topi (fun x_27 ex_27 => ?_)
        refine lv_aload_n hx hb d_M_life_64 rfl (lv_at hl 0 rfl) ?_
        refine m_get (v := .ref (ad 1014)) (C := R_M) (T := T_M) (N := 28) hx hb hT in_M hown hC.1 hm 1000 rfl g_7 rfl 14 (by decide) (hT _ k_604) (fun _ h9 => h9) rfl d_M_life_65 ?_
        refine lv_iload_n hx hb d_M_life_68 rfl (lv_at hl 1 rfl) ?_
        refine m_iald (v := A 14 i) hx hb hC.1 hm 1014 rfl 0 g_19 rfl (by rw [epi]; exact vp_in_nI (by omega) (by decide)) (by rw [epi, nI_clamp (by omega)]) d_M_life_69 ?_
        refine lv_iadd hx hb d_M_life_70 ?_
        refine lv_topi (fun x_28 ex_28 => ?_)
        have hix : x_28 = nI (40 * i + kc) := by rw [ex_28, ex_27, epi, ekc, show (40 : Int32) = nI 40 from rfl, pk_mul, nI_add]
        refine lv_iload_n hx hb d_M_life_71 rfl (lv_at hl 2 rfl) ?_
        refine m_iast hx hb hC.1 hm 1013 rfl 0 g_18 rfl (by rw [hix]; exact vp_in_nI (by omega) (by decide)) d_M_life_72 (fun H locs hm => ?_)
        rw [show (x_28).toNatClampNeg = (40 * i + kc) by rw [hix, nI_clamp (by omega)]] at hm
        obtain ⟨G_29, eG_29⟩ : ∃ z : mG, z = va_up G_6 1013 (some (.inl ((dA 0), 160, .inl (upd (A 13) (40 * i + kc) p1)))) := ⟨_, rfl⟩
        have hm : mS D mCl (mA ad G s.heap.size) s.heap ad G_29 H locs := by rw [eG_29]; exact hm
        have g_30 := (congrFun eG_29 1000).trans ((va_up_ne _ _ (by decide)).trans g_7)
        have g_31 := (congrFun eG_29 1003).trans ((va_up_ne _ _ (by decide)).trans g_8)
        have g_32 := (congrFun eG_29 1004).trans ((va_up_ne _ _ (by decide)).trans g_9)
        have g_33 := (congrFun eG_29 1005).trans ((va_up_ne _ _ (by decide)).trans g_10)
        have g_34 := (congrFun eG_29 1006).trans ((va_up_ne _ _ (by decide)).trans g_11)
        have g_35 := (congrFun eG_29 1007).trans ((va_up_ne _ _ (by decide)).trans g_12)
        have g_36 := (congrFun eG_29 1008).trans ((va_up_ne _ _ (by decide)).trans g_13)
        have g_37 := (congrFun eG_29 1009).trans ((va_up_ne _ _ (by decide)).trans g_14)
        have g_38 := (congrFun eG_29 1010).trans ((va_up_ne _ _ (by decide)).trans g_15)
        have g_39 := (congrFun eG_29 1011).trans ((va_up_ne _ _ (by decide)).trans g_16)
        have g_40 := (congrFun eG_29 1012).trans ((va_up_ne _ _ (by decide)).trans g_17)
        have g_41 : G_29 1013 = some (.inl ((dA 0), 160, .inl (upd (A 13) (40 * i + kc) p1))) := by rw [eG_29, va_up_self]
        have g_42 := (congrFun eG_29 1014).trans ((va_up_ne _ _ (by decide)).trans g_19)
        have g_43 := (congrFun eG_29 1015).trans ((va_up_ne _ _ (by decide)).trans g_20)
        have g_44 := (congrFun eG_29 1016).trans ((va_up_ne _ _ (by decide)).trans g_21)
        have g_45 := (congrFun eG_29 1021).trans ((va_up_ne _ _ (by decide)).trans g_22)
        have g_46 := (congrFun eG_29 1022).trans ((va_up_ne _ _ (by decide)).trans g_23)
        have g_47 := (congrFun eG_29 1023).trans ((va_up_ne _ _ (by decide)).trans g_24)
        have g_48 := (congrFun eG_29 1024).trans ((va_up_ne _ _ (by decide)).trans g_25)
        have g_49 := (congrFun eG_29 1025).trans ((va_up_ne _ _ (by decide)).trans g_26)
        have hG : G_29 = gM dA ad (va_up A 13 (upd (A 13) (40 * i + kc) p1)) B (va_up S 0 0) sd G0 := by rw [eG_29, hG]; exact gM_u13 _
        refine lv_aload_n hx hb d_M_life_73 rfl (lv_at hl 0 rfl) ?_
        refine m_get (v := .ref (ad 1014)) (C := R_M) (T := T_M) (N := 28) hx hb hT in_M hown hC.1 hm 1000 rfl g_30 rfl 14 (by decide) (hT _ k_604) (fun _ h9 => h9) rfl d_M_life_74 ?_
        refine lv_iload_n hx hb d_M_life_77 rfl (lv_at hl 1 rfl) ?_
        refine lv_dup2_11 hx hb d_M_life_78 rfl rfl ?_
        refine m_iald (v := A 14 i) hx hb hC.1 hm 1014 rfl 0 g_42 rfl (by rw [epi]; exact vp_in_nI (by omega) (by decide)) (by rw [epi, nI_clamp (by omega)]) d_M_life_79 ?_
        refine lv_iconst (v := 1) hx hb d_M_life_80 (by decide) ?_
        refine lv_iadd hx hb d_M_life_81 ?_
        refine lv_topi (fun x_50 ex_50 => ?_)
        refine m_iast hx hb hC.1 hm 1014 rfl 0 g_42 rfl (by rw [epi]; exact vp_in_nI (by omega) (by decide)) d_M_life_82 (fun H locs hm => ?_)
        rw [show (p0).toNatClampNeg = i by rw [epi, nI_clamp (by omega)]] at hm
        obtain ⟨G_51, eG_51⟩ : ∃ z : mG, z = va_up G_29 1014 (some (.inl ((dA 0), 4, .inl (upd (A 14) i x_50)))) := ⟨_, rfl⟩
        have hm : mS D mCl (mA ad G s.heap.size) s.heap ad G_51 H locs := by rw [eG_51]; exact hm
        have g_52 := (congrFun eG_51 1000).trans ((va_up_ne _ _ (by decide)).trans g_30)
        have g_53 := (congrFun eG_51 1003).trans ((va_up_ne _ _ (by decide)).trans g_31)
        have g_54 := (congrFun eG_51 1004).trans ((va_up_ne _ _ (by decide)).trans g_32)
        have g_55 := (congrFun eG_51 1005).trans ((va_up_ne _ _ (by decide)).trans g_33)
        have g_56 := (congrFun eG_51 1006).trans ((va_up_ne _ _ (by decide)).trans g_34)
        have g_57 := (congrFun eG_51 1007).trans ((va_up_ne _ _ (by decide)).trans g_35)
        have g_58 := (congrFun eG_51 1008).trans ((va_up_ne _ _ (by decide)).trans g_36)
        have g_59 := (congrFun eG_51 1009).trans ((va_up_ne _ _ (by decide)).trans g_37)
        have g_60 := (congrFun eG_51 1010).trans ((va_up_ne _ _ (by decide)).trans g_38)
        have g_61 := (congrFun eG_51 1011).trans ((va_up_ne _ _ (by decide)).trans g_39)
        have g_62 := (congrFun eG_51 1012).trans ((va_up_ne _ _ (by decide)).trans g_40)
        have g_63 := (congrFun eG_51 1013).trans ((va_up_ne _ _ (by decide)).trans g_41)
        have g_64 : G_51 1014 = some (.inl ((dA 0), 4, .inl (upd (A 14) i x_50))) := by rw [eG_51, va_up_self]
        have g_65 := (congrFun eG_51 1015).trans ((va_up_ne _ _ (by decide)).trans g_43)
        have g_66 := (congrFun eG_51 1016).trans ((va_up_ne _ _ (by decide)).trans g_44)
        have g_67 := (congrFun eG_51 1021).trans ((va_up_ne _ _ (by decide)).trans g_45)
        have g_68 := (congrFun eG_51 1022).trans ((va_up_ne _ _ (by decide)).trans g_46)
        have g_69 := (congrFun eG_51 1023).trans ((va_up_ne _ _ (by decide)).trans g_47)
        have g_70 := (congrFun eG_51 1024).trans ((va_up_ne _ _ (by decide)).trans g_48)
        have g_71 := (congrFun eG_51 1025).trans ((va_up_ne _ _ (by decide)).trans g_49)
        have hG : G_51 = gM dA ad (va_up (va_up A 13 (upd (A 13) (40 * i + kc) p1)) 14 (upd (A 14) i x_50)) B (va_up S 0 0) sd G0 := by rw [eG_51, hG]; exact gM_u14 _
        refine lv_aload_n hx hb d_M_life_83 rfl (lv_at hl 0 rfl) ?_
        refine m_get (v := .ref (ad 1014)) (C := R_M) (T := T_M) (N := 28) hx hb hT in_M hown hC.1 hm 1000 rfl g_52 rfl 14 (by decide) (hT _ k_604) (fun _ h9 => h9) rfl d_M_life_84 ?_
        refine lv_iload_n hx hb d_M_life_87 rfl (lv_at hl 1 rfl) ?_
        refine m_iald (v := x_50) hx hb hC.1 hm 1014 rfl 0 g_64 rfl (by rw [epi]; exact vp_in_nI (by omega) (by decide)) (by rw [epi, nI_clamp (by omega), pk_us]) d_M_life_88 ?_
        exact m_iret (v := x_50) hx hb hr hm (Or.inr (Or.inr (Or.inr (⟨i, kc, hi, epi, (inJ (p := p1) (lo := 1) (hi := 1000) (a := 1) (b := 1000) (by decide) (by decide)).mp (by have h9 := bv_ne w_5 c_21; rw [ex_3] at h9; exact h9), ekc, hk40, by rw [ex_50, ekc, nI_1], by rw [hG, ex_50, ekc, nI_1]⟩)))) d_M_life_89 hlocks
      · refine lv_iconst (v := 3) hx hb d_M_life_39 (by decide) ?_
        refine lv_goto (tgt := 44) hx hb d_M_life_40 (by decide) ?_
        refine m_put (v := .int 3) (ty := .int) (C := R_M) (T := T_M) (N := 28) hx hb hT in_M t_M tok_M nm_M hown hC.1 hm 1000 rfl ((congrFun hG 1000).trans gM_o) rfl 0 (by decide) (hT _ k_590) (fun _ h9 => h9) rfl (by decide +kernel) rfl rfl (Nat.le_of_ble_eq_true rfl) d_M_life_44 (fun H locs hm => ?_)
        obtain ⟨G_72, eG_72⟩ : ∃ z : mG, z = va_up G 1000 (some (.inr (6, [.int 3, .long sd, .int (S 2), .ref (ad 1003), .ref (ad 1004), .ref (ad 1005), .ref (ad 1006), .ref (ad 1007), .ref (ad 1008), .ref (ad 1009), .ref (ad 1010), .ref (ad 1011), .ref (ad 1012), .ref (ad 1013), .ref (ad 1014), .ref (ad 1015), .ref (ad 1016), .int (S 17), .int (S 18), .int (S 19), .int (S 20), .ref (ad 1021), .ref (ad 1022), .ref (ad 1023), .ref (ad 1024), .ref (ad 1025), .int (S 26), .int (S 27)]))) := ⟨_, rfl⟩
        have hm : mS D mCl (mA ad G s.heap.size) s.heap ad G_72 H locs := by rw [eG_72]; exact hm
        have g_73 : G_72 1000 = some (.inr (6, [.int 3, .long sd, .int (S 2), .ref (ad 1003), .ref (ad 1004), .ref (ad 1005), .ref (ad 1006), .ref (ad 1007), .ref (ad 1008), .ref (ad 1009), .ref (ad 1010), .ref (ad 1011), .ref (ad 1012), .ref (ad 1013), .ref (ad 1014), .ref (ad 1015), .ref (ad 1016), .int (S 17), .int (S 18), .int (S 19), .int (S 20), .ref (ad 1021), .ref (ad 1022), .ref (ad 1023), .ref (ad 1024), .ref (ad 1025), .int (S 26), .int (S 27)])) := by rw [eG_72, va_up_self]
        have g_74 := (congrFun eG_72 1003).trans ((va_up_ne _ _ (by decide)).trans ((congrFun hG 1003).trans gM_3))
        have g_75 := (congrFun eG_72 1004).trans ((va_up_ne _ _ (by decide)).trans ((congrFun hG 1004).trans gM_4))
        have g_76 := (congrFun eG_72 1005).trans ((va_up_ne _ _ (by decide)).trans ((congrFun hG 1005).trans gM_5))
        have g_77 := (congrFun eG_72 1006).trans ((va_up_ne _ _ (by decide)).trans ((congrFun hG 1006).trans gM_6))
        have g_78 := (congrFun eG_72 1007).trans ((va_up_ne _ _ (by decide)).trans ((congrFun hG 1007).trans gM_7))
        have g_79 := (congrFun eG_72 1008).trans ((va_up_ne _ _ (by decide)).trans ((congrFun hG 1008).trans gM_8))
        have g_80 := (congrFun eG_72 1009).trans ((va_up_ne _ _ (by decide)).trans ((congrFun hG 1009).trans gM_9))
        have g_81 := (congrFun eG_72 1010).trans ((va_up_ne _ _ (by decide)).trans ((congrFun hG 1010).trans gM_10))
        have g_82 := (congrFun eG_72 1011).trans ((va_up_ne _ _ (by decide)).trans ((congrFun hG 1011).trans gM_11))
        have g_83 := (congrFun eG_72 1012).trans ((va_up_ne _ _ (by decide)).trans ((congrFun hG 1012).trans gM_12))
        have g_84 := (congrFun eG_72 1013).trans ((va_up_ne _ _ (by decide)).trans ((congrFun hG 1013).trans gM_13))
        have g_85 := (congrFun eG_72 1014).trans ((va_up_ne _ _ (by decide)).trans ((congrFun hG 1014).trans gM_14))
        have g_86 := (congrFun eG_72 1015).trans ((va_up_ne _ _ (by decide)).trans ((congrFun hG 1015).trans gM_15))
        have g_87 := (congrFun eG_72 1016).trans ((va_up_ne _ _ (by decide)).trans ((congrFun hG 1016).trans gM_16))
        have g_88 := (congrFun eG_72 1021).trans ((va_up_ne _ _ (by decide)).trans ((congrFun hG 1021).trans gM_21))
        have g_89 := (congrFun eG_72 1022).trans ((va_up_ne _ _ (by decide)).trans ((congrFun hG 1022).trans gM_22))
        have g_90 := (congrFun eG_72 1023).trans ((va_up_ne _ _ (by decide)).trans ((congrFun hG 1023).trans gM_23))
        have g_91 := (congrFun eG_72 1024).trans ((va_up_ne _ _ (by decide)).trans ((congrFun hG 1024).trans gM_24))
        have g_92 := (congrFun eG_72 1025).trans ((va_up_ne _ _ (by decide)).trans ((congrFun hG 1025).trans gM_25))
        have hG : G_72 = gM dA ad A B (va_up S 0 3) sd G0 := by rw [eG_72, hG]; exact gM_uo (va_up S 0 3)
        refine lv_aload_n hx hb d_M_life_47 rfl (lv_at hl 0 rfl) ?_
        refine m_get (v := .int 3) (C := R_M) (T := T_M) (N := 28) hx hb hT in_M hown hC.1 hm 1000 rfl g_73 rfl 0 (by decide) (hT _ k_590) (fun _ h9 => h9) rfl d_M_life_48 ?_
        refine lv_if_le (tgt := 56) hx hb d_M_life_51 (by decide) (fun c9 => absurd c9 (by decide)) (fun _ => ?_)
        refine lv_iconst (v := 0) hx hb d_M_life_54 (by decide) ?_
        exact m_iret (v := 0) hx hb hr hm (Or.inr (Or.inr (Or.inl ⟨⟨i, hi, epi, c_36⟩, (inJ (p := p1) (lo := 1) (hi := 1000) (a := 1) (b := 1000) (by decide) (by decide)).mp (by have h9 := bv_ne w_5 c_21; rw [ex_3] at h9; exact h9), by rw [hG]⟩))) d_M_life_55 hlocks
    · refine lv_iconst (v := 2) hx hb d_M_life_24 (by decide) ?_
      refine lv_goto (tgt := 44) hx hb d_M_life_25 (by decide) ?_
      refine m_put (v := .int 2) (ty := .int) (C := R_M) (T := T_M) (N := 28) hx hb hT in_M t_M tok_M nm_M hown hC.1 hm 1000 rfl ((congrFun hG 1000).trans gM_o) rfl 0 (by decide) (hT _ k_590) (fun _ h9 => h9) rfl (by decide +kernel) rfl rfl (Nat.le_of_ble_eq_true rfl) d_M_life_44 (fun H locs hm => ?_)
      obtain ⟨G_93, eG_93⟩ : ∃ z : mG, z = va_up G 1000 (some (.inr (6, [.int 2, .long sd, .int (S 2), .ref (ad 1003), .ref (ad 1004), .ref (ad 1005), .ref (ad 1006), .ref (ad 1007), .ref (ad 1008), .ref (ad 1009), .ref (ad 1010), .ref (ad 1011), .ref (ad 1012), .ref (ad 1013), .ref (ad 1014), .ref (ad 1015), .ref (ad 1016), .int (S 17), .int (S 18), .int (S 19), .int (S 20), .ref (ad 1021), .ref (ad 1022), .ref (ad 1023), .ref (ad 1024), .ref (ad 1025), .int (S 26), .int (S 27)]))) := ⟨_, rfl⟩
      have hm : mS D mCl (mA ad G s.heap.size) s.heap ad G_93 H locs := by rw [eG_93]; exact hm
      have g_94 : G_93 1000 = some (.inr (6, [.int 2, .long sd, .int (S 2), .ref (ad 1003), .ref (ad 1004), .ref (ad 1005), .ref (ad 1006), .ref (ad 1007), .ref (ad 1008), .ref (ad 1009), .ref (ad 1010), .ref (ad 1011), .ref (ad 1012), .ref (ad 1013), .ref (ad 1014), .ref (ad 1015), .ref (ad 1016), .int (S 17), .int (S 18), .int (S 19), .int (S 20), .ref (ad 1021), .ref (ad 1022), .ref (ad 1023), .ref (ad 1024), .ref (ad 1025), .int (S 26), .int (S 27)])) := by rw [eG_93, va_up_self]
      have g_95 := (congrFun eG_93 1003).trans ((va_up_ne _ _ (by decide)).trans ((congrFun hG 1003).trans gM_3))
      have g_96 := (congrFun eG_93 1004).trans ((va_up_ne _ _ (by decide)).trans ((congrFun hG 1004).trans gM_4))
      have g_97 := (congrFun eG_93 1005).trans ((va_up_ne _ _ (by decide)).trans ((congrFun hG 1005).trans gM_5))
      have g_98 := (congrFun eG_93 1006).trans ((va_up_ne _ _ (by decide)).trans ((congrFun hG 1006).trans gM_6))
      have g_99 := (congrFun eG_93 1007).trans ((va_up_ne _ _ (by decide)).trans ((congrFun hG 1007).trans gM_7))
      have g_100 := (congrFun eG_93 1008).trans ((va_up_ne _ _ (by decide)).trans ((congrFun hG 1008).trans gM_8))
      have g_101 := (congrFun eG_93 1009).trans ((va_up_ne _ _ (by decide)).trans ((congrFun hG 1009).trans gM_9))
      have g_102 := (congrFun eG_93 1010).trans ((va_up_ne _ _ (by decide)).trans ((congrFun hG 1010).trans gM_10))
      have g_103 := (congrFun eG_93 1011).trans ((va_up_ne _ _ (by decide)).trans ((congrFun hG 1011).trans gM_11))
      have g_104 := (congrFun eG_93 1012).trans ((va_up_ne _ _ (by decide)).trans ((congrFun hG 1012).trans gM_12))
      have g_105 := (congrFun eG_93 1013).trans ((va_up_ne _ _ (by decide)).trans ((congrFun hG 1013).trans gM_13))
      have g_106 := (congrFun eG_93 1014).trans ((va_up_ne _ _ (by decide)).trans ((congrFun hG 1014).trans gM_14))
      have g_107 := (congrFun eG_93 1015).trans ((va_up_ne _ _ (by decide)).trans ((congrFun hG 1015).trans gM_15))
      have g_108 := (congrFun eG_93 1016).trans ((va_up_ne _ _ (by decide)).trans ((congrFun hG 1016).trans gM_16))
      have g_109 := (congrFun eG_93 1021).trans ((va_up_ne _ _ (by decide)).trans ((congrFun hG 1021).trans gM_21))
      have g_110 := (congrFun eG_93 1022).trans ((va_up_ne _ _ (by decide)).trans ((congrFun hG 1022).trans gM_22))
      have g_111 := (congrFun eG_93 1023).trans ((va_up_ne _ _ (by decide)).trans ((congrFun hG 1023).trans gM_23))
      have g_112 := (congrFun eG_93 1024).trans ((va_up_ne _ _ (by decide)).trans ((congrFun hG 1024).trans gM_24))
      have g_113 := (congrFun eG_93 1025).trans ((va_up_ne _ _ (by decide)).trans ((congrFun hG 1025).trans gM_25))
      have hG : G_93 = gM dA ad A B (va_up S 0 2) sd G0 := by rw [eG_93, hG]; exact gM_uo (va_up S 0 2)
      refine lv_aload_n hx hb d_M_life_47 rfl (lv_at hl 0 rfl) ?_
      refine m_get (v := .int 2) (C := R_M) (T := T_M) (N := 28) hx hb hT in_M hown hC.1 hm 1000 rfl g_94 rfl 0 (by decide) (hT _ k_590) (fun _ h9 => h9) rfl d_M_life_48 ?_
      refine lv_if_le (tgt := 56) hx hb d_M_life_51 (by decide) (fun c9 => absurd c9 (by decide)) (fun _ => ?_)
      refine lv_iconst (v := 0) hx hb d_M_life_54 (by decide) ?_
      exact m_iret (v := 0) hx hb hr hm (Or.inr (Or.inl ⟨bv_ne w_2 c_5, (Classical.not_not.mp (fun q => bv_eq w_5 c_21 (by rw [ex_3]; exact (inJ (p := p1) (lo := 1) (hi := 1000) (a := 1) (b := 1000) (by decide) (by decide)).mpr q))), by rw [hG]⟩)) d_M_life_55 hlocks
  · refine lv_iconst (v := 1) hx hb d_M_life_8 (by decide) ?_
    refine lv_goto (tgt := 44) hx hb d_M_life_9 (by decide) ?_
    refine m_put (v := .int 1) (ty := .int) (C := R_M) (T := T_M) (N := 28) hx hb hT in_M t_M tok_M nm_M hown hC.1 hm 1000 rfl ((congrFun hG 1000).trans gM_o) rfl 0 (by decide) (hT _ k_590) (fun _ h9 => h9) rfl (by decide +kernel) rfl rfl (Nat.le_of_ble_eq_true rfl) d_M_life_44 (fun H locs hm => ?_)
    obtain ⟨G_114, eG_114⟩ : ∃ z : mG, z = va_up G 1000 (some (.inr (6, [.int 1, .long sd, .int (S 2), .ref (ad 1003), .ref (ad 1004), .ref (ad 1005), .ref (ad 1006), .ref (ad 1007), .ref (ad 1008), .ref (ad 1009), .ref (ad 1010), .ref (ad 1011), .ref (ad 1012), .ref (ad 1013), .ref (ad 1014), .ref (ad 1015), .ref (ad 1016), .int (S 17), .int (S 18), .int (S 19), .int (S 20), .ref (ad 1021), .ref (ad 1022), .ref (ad 1023), .ref (ad 1024), .ref (ad 1025), .int (S 26), .int (S 27)]))) := ⟨_, rfl⟩
    have hm : mS D mCl (mA ad G s.heap.size) s.heap ad G_114 H locs := by rw [eG_114]; exact hm
    have g_115 : G_114 1000 = some (.inr (6, [.int 1, .long sd, .int (S 2), .ref (ad 1003), .ref (ad 1004), .ref (ad 1005), .ref (ad 1006), .ref (ad 1007), .ref (ad 1008), .ref (ad 1009), .ref (ad 1010), .ref (ad 1011), .ref (ad 1012), .ref (ad 1013), .ref (ad 1014), .ref (ad 1015), .ref (ad 1016), .int (S 17), .int (S 18), .int (S 19), .int (S 20), .ref (ad 1021), .ref (ad 1022), .ref (ad 1023), .ref (ad 1024), .ref (ad 1025), .int (S 26), .int (S 27)])) := by rw [eG_114, va_up_self]
    have g_116 := (congrFun eG_114 1003).trans ((va_up_ne _ _ (by decide)).trans ((congrFun hG 1003).trans gM_3))
    have g_117 := (congrFun eG_114 1004).trans ((va_up_ne _ _ (by decide)).trans ((congrFun hG 1004).trans gM_4))
    have g_118 := (congrFun eG_114 1005).trans ((va_up_ne _ _ (by decide)).trans ((congrFun hG 1005).trans gM_5))
    have g_119 := (congrFun eG_114 1006).trans ((va_up_ne _ _ (by decide)).trans ((congrFun hG 1006).trans gM_6))
    have g_120 := (congrFun eG_114 1007).trans ((va_up_ne _ _ (by decide)).trans ((congrFun hG 1007).trans gM_7))
    have g_121 := (congrFun eG_114 1008).trans ((va_up_ne _ _ (by decide)).trans ((congrFun hG 1008).trans gM_8))
    have g_122 := (congrFun eG_114 1009).trans ((va_up_ne _ _ (by decide)).trans ((congrFun hG 1009).trans gM_9))
    have g_123 := (congrFun eG_114 1010).trans ((va_up_ne _ _ (by decide)).trans ((congrFun hG 1010).trans gM_10))
    have g_124 := (congrFun eG_114 1011).trans ((va_up_ne _ _ (by decide)).trans ((congrFun hG 1011).trans gM_11))
    have g_125 := (congrFun eG_114 1012).trans ((va_up_ne _ _ (by decide)).trans ((congrFun hG 1012).trans gM_12))
    have g_126 := (congrFun eG_114 1013).trans ((va_up_ne _ _ (by decide)).trans ((congrFun hG 1013).trans gM_13))
    have g_127 := (congrFun eG_114 1014).trans ((va_up_ne _ _ (by decide)).trans ((congrFun hG 1014).trans gM_14))
    have g_128 := (congrFun eG_114 1015).trans ((va_up_ne _ _ (by decide)).trans ((congrFun hG 1015).trans gM_15))
    have g_129 := (congrFun eG_114 1016).trans ((va_up_ne _ _ (by decide)).trans ((congrFun hG 1016).trans gM_16))
    have g_130 := (congrFun eG_114 1021).trans ((va_up_ne _ _ (by decide)).trans ((congrFun hG 1021).trans gM_21))
    have g_131 := (congrFun eG_114 1022).trans ((va_up_ne _ _ (by decide)).trans ((congrFun hG 1022).trans gM_22))
    have g_132 := (congrFun eG_114 1023).trans ((va_up_ne _ _ (by decide)).trans ((congrFun hG 1023).trans gM_23))
    have g_133 := (congrFun eG_114 1024).trans ((va_up_ne _ _ (by decide)).trans ((congrFun hG 1024).trans gM_24))
    have g_134 := (congrFun eG_114 1025).trans ((va_up_ne _ _ (by decide)).trans ((congrFun hG 1025).trans gM_25))
    have hG : G_114 = gM dA ad A B (va_up S 0 1) sd G0 := by rw [eG_114, hG]; exact gM_uo (va_up S 0 1)
    refine lv_aload_n hx hb d_M_life_47 rfl (lv_at hl 0 rfl) ?_
    refine m_get (v := .int 1) (C := R_M) (T := T_M) (N := 28) hx hb hT in_M hown hC.1 hm 1000 rfl g_115 rfl 0 (by decide) (hT _ k_590) (fun _ h9 => h9) rfl d_M_life_48 ?_
    refine lv_if_le (tgt := 56) hx hb d_M_life_51 (by decide) (fun c9 => absurd c9 (by decide)) (fun _ => ?_)
    refine lv_iconst (v := 0) hx hb d_M_life_54 (by decide) ?_
    exact m_iret (v := 0) hx hb hr hm (Or.inl ⟨bv_eq w_2 c_5, by rw [hG]⟩) d_M_life_55 hlocks

set_option maxHeartbeats 4000000 in
set_option maxRecDepth 100000 in
theorem c_M_cost (l : Launch) (D : va_G) (dA : Nat → ClassId) (ad : Nat → Nat) (G : mG) (sz : Nat) (A : Nat → Nat → Int32) (B : Nat → Nat → Int64) (S : Nat → Int32) (sd : Int64) (G0 : mG) (hG : G = gM dA ad A B S sd G0) (p0 p1 p2 : Int32) : Met l y_M_cost (.code y_M_cost b_M_cost 4 none :: mBig) ({ frames := 1, cells := 0, slots := 0, locals := 25 }) (mPc [.ref (ad 1000), .int p0, .int p1, .int p2] D mCl (mTys dA) mTx ad G sz) (mQv (fun (u : mU) => ((¬ (∃ i, i < 4 ∧ p0 = nI i) ∧ u = (ad, gM dA ad A B (va_up S 0 1) sd G0)) ∨ ((∃ i, i < 4 ∧ p0 = nI i) ∧ (p1 < 0 ∨ 1000000 < p1 ∨ p2 < 0 ∨ 1000000 < p2) ∧ u = (ad, gM dA ad A B (va_up S 0 2) sd G0)) ∨ (∃ i, i < 4 ∧ p0 = nI i ∧ ¬ (p1 < 0 ∨ 1000000 < p1 ∨ p2 < 0 ∨ 1000000 < p2) ∧ u = (ad, gM dA ad A (va_up (va_up B 15 (vp_updL (B 15) i p1.toInt64)) 16 (vp_updL (B 16) i p2.toInt64)) (va_up S 0 0) sd G0)))) D mCl ad G sz) 0 0 (mA ad G sz) := by
  refine Met.ofW (cc := b_M_cost) (maxL := 4) (ret := none) (by decide) rfl ?_
  intro p e s m args below meth c s₁ BB hml hv
  obtain ⟨rfl, hsz, hw0, hC⟩ := hv
  have hx := BB.exec
  have hb := BB.bytes
  have hr := BB.returns
  have hts := atoms_spec (ws := .code y_M_cost b_M_cost 4 none :: mBig) BB.pre
  have hT : ∀ w ∈ mBig, w.before _ s = true := fun w h => hts w (List.mem_cons_of_mem _ h)
  have hown : s.vm.findClass "EdgeWearModel" = some m.cls := findClass_of_methodNamed BB.named
  have hlocks := BB.notSynchronized
  subst hsz
  have hm := mS.start hw0
  have hA : ∀ q : Nat, s.heap.size ≤ q → mA ad G s.heap.size q := fun q h => Or.inr h
  have hl := lv_entry ([.ref (ad 1000), .int p0, .int p1, .int p2]) (n := 4) (Nat.le_of_ble_eq_true rfl)
  rw [lg_entry_eq]
  generalize (lg_sl ([.ref (ad 1000), .int p0, .int p1, .int p2]) ++ List.replicate (4 - (lg_sl ([.ref (ad 1000), .int p0, .int p1, .int p2])).length) Slot.unset).toArray = ls at hl ⊢
  have hl : lv_has ls 4 [(0, .ref (ad 1000)), (1, .int p0), (2, .int p1), (3, .int p2)] := hl
  refine lv_aload_n hx hb d_M_cost_0 rfl (lv_at hl 0 rfl) ?_
  refine lv_iload_n hx hb d_M_cost_1 rfl (lv_at hl 1 rfl) ?_
  refine m_roi (m_runS (As := [.int p0]) (rest := [.ref (ad 1000)]) ⟨hx, hb, hml, hown, hts⟩ (c_M_isFour l D dA ad G s.heap.size p0) (va_cwS 1 hts (gS k_687 k_685 k_686 k_4) rfl rfl rfl (by decide +kernel) ⟨Nat.le_of_ble_eq_true rfl, Nat.le_of_ble_eq_true rfl⟩) hm hA hC rfl hl.1 rfl (Nat.le_of_ble_eq_true rfl) d_M_cost_2 ⟨Nat.le_of_ble_eq_true rfl, Nat.le_of_ble_eq_true rfl⟩) hm hA (fun r_1 H locs w_2 hm => ?_)
  refine lv_if_ne (tgt := 12) hx hb d_M_cost_5 (by decide) (fun c_5 => ?_) (fun c_5 => ?_)
  · refine lv_iload_n hx hb d_M_cost_12 rfl (lv_at hl 2 rfl) ?_
    refine lv_i2l hx hb d_M_cost_13 rfl ?_
    refine lv_topl (fun x_3 ex_3 => ?_)
    refine lv_lconst (v := 0) hx hb d_M_cost_14 (by decide) ?_
    refine lv_ldc2 (v := 1000000) hx hb hown (hT _ k_589) d_M_cost_15 ?_
    refine m_roi (m_runS (As := [.long x_3, .long 0, .long 1000000]) (rest := [.ref (ad 1000)]) ⟨hx, hb, hml, hown, hts⟩ (c_M_isIn l D dA ad G H.size x_3 0 1000000) (va_cwS 3 hts (gS k_690 k_688 k_689 k_4) rfl rfl rfl (by decide +kernel) ⟨Nat.le_of_ble_eq_true rfl, Nat.le_of_ble_eq_true rfl⟩) hm hA hC rfl hl.1 rfl (Nat.le_of_ble_eq_true rfl) d_M_cost_18 ⟨Nat.le_of_ble_eq_true rfl, Nat.le_of_ble_eq_true rfl⟩) hm hA (fun r_4 H locs w_5 hm => ?_)
    refine lv_if_eq (tgt := 40) hx hb d_M_cost_21 (by decide) (fun c_21 => ?_) (fun c_21 => ?_)
    · refine lv_iconst (v := 2) hx hb d_M_cost_40 (by decide) ?_
      refine m_put (v := .int 2) (ty := .int) (C := R_M) (T := T_M) (N := 28) hx hb hT in_M t_M tok_M nm_M hown hC.1 hm 1000 rfl ((congrFun hG 1000).trans gM_o) rfl 0 (by decide) (hT _ k_590) (fun _ h9 => h9) rfl (by decide +kernel) rfl rfl (Nat.le_of_ble_eq_true rfl) d_M_cost_41 (fun H locs hm => ?_)
      obtain ⟨G_6, eG_6⟩ : ∃ z : mG, z = va_up G 1000 (some (.inr (6, [.int 2, .long sd, .int (S 2), .ref (ad 1003), .ref (ad 1004), .ref (ad 1005), .ref (ad 1006), .ref (ad 1007), .ref (ad 1008), .ref (ad 1009), .ref (ad 1010), .ref (ad 1011), .ref (ad 1012), .ref (ad 1013), .ref (ad 1014), .ref (ad 1015), .ref (ad 1016), .int (S 17), .int (S 18), .int (S 19), .int (S 20), .ref (ad 1021), .ref (ad 1022), .ref (ad 1023), .ref (ad 1024), .ref (ad 1025), .int (S 26), .int (S 27)]))) := ⟨_, rfl⟩
      have hm : mS D mCl (mA ad G s.heap.size) s.heap ad G_6 H locs := by rw [eG_6]; exact hm
      have g_7 : G_6 1000 = some (.inr (6, [.int 2, .long sd, .int (S 2), .ref (ad 1003), .ref (ad 1004), .ref (ad 1005), .ref (ad 1006), .ref (ad 1007), .ref (ad 1008), .ref (ad 1009), .ref (ad 1010), .ref (ad 1011), .ref (ad 1012), .ref (ad 1013), .ref (ad 1014), .ref (ad 1015), .ref (ad 1016), .int (S 17), .int (S 18), .int (S 19), .int (S 20), .ref (ad 1021), .ref (ad 1022), .ref (ad 1023), .ref (ad 1024), .ref (ad 1025), .int (S 26), .int (S 27)])) := by rw [eG_6, va_up_self]
      have g_8 := (congrFun eG_6 1003).trans ((va_up_ne _ _ (by decide)).trans ((congrFun hG 1003).trans gM_3))
      have g_9 := (congrFun eG_6 1004).trans ((va_up_ne _ _ (by decide)).trans ((congrFun hG 1004).trans gM_4))
      have g_10 := (congrFun eG_6 1005).trans ((va_up_ne _ _ (by decide)).trans ((congrFun hG 1005).trans gM_5))
      have g_11 := (congrFun eG_6 1006).trans ((va_up_ne _ _ (by decide)).trans ((congrFun hG 1006).trans gM_6))
      have g_12 := (congrFun eG_6 1007).trans ((va_up_ne _ _ (by decide)).trans ((congrFun hG 1007).trans gM_7))
      have g_13 := (congrFun eG_6 1008).trans ((va_up_ne _ _ (by decide)).trans ((congrFun hG 1008).trans gM_8))
      have g_14 := (congrFun eG_6 1009).trans ((va_up_ne _ _ (by decide)).trans ((congrFun hG 1009).trans gM_9))
      have g_15 := (congrFun eG_6 1010).trans ((va_up_ne _ _ (by decide)).trans ((congrFun hG 1010).trans gM_10))
      have g_16 := (congrFun eG_6 1011).trans ((va_up_ne _ _ (by decide)).trans ((congrFun hG 1011).trans gM_11))
      have g_17 := (congrFun eG_6 1012).trans ((va_up_ne _ _ (by decide)).trans ((congrFun hG 1012).trans gM_12))
      have g_18 := (congrFun eG_6 1013).trans ((va_up_ne _ _ (by decide)).trans ((congrFun hG 1013).trans gM_13))
      have g_19 := (congrFun eG_6 1014).trans ((va_up_ne _ _ (by decide)).trans ((congrFun hG 1014).trans gM_14))
      have g_20 := (congrFun eG_6 1015).trans ((va_up_ne _ _ (by decide)).trans ((congrFun hG 1015).trans gM_15))
      have g_21 := (congrFun eG_6 1016).trans ((va_up_ne _ _ (by decide)).trans ((congrFun hG 1016).trans gM_16))
      have g_22 := (congrFun eG_6 1021).trans ((va_up_ne _ _ (by decide)).trans ((congrFun hG 1021).trans gM_21))
      have g_23 := (congrFun eG_6 1022).trans ((va_up_ne _ _ (by decide)).trans ((congrFun hG 1022).trans gM_22))
      have g_24 := (congrFun eG_6 1023).trans ((va_up_ne _ _ (by decide)).trans ((congrFun hG 1023).trans gM_23))
      have g_25 := (congrFun eG_6 1024).trans ((va_up_ne _ _ (by decide)).trans ((congrFun hG 1024).trans gM_24))
      have g_26 := (congrFun eG_6 1025).trans ((va_up_ne _ _ (by decide)).trans ((congrFun hG 1025).trans gM_25))
      have hG : G_6 = gM dA ad A B (va_up S 0 2) sd G0 := by rw [eG_6, hG]; exact gM_uo (va_up S 0 2)
      refine lv_aload_n hx hb d_M_cost_44 rfl (lv_at hl 0 rfl) ?_
      refine m_get (v := .int 2) (C := R_M) (T := T_M) (N := 28) hx hb hT in_M hown hC.1 hm 1000 rfl g_7 rfl 0 (by decide) (hT _ k_590) (fun _ h9 => h9) rfl d_M_cost_45 ?_
      refine lv_if_ne (tgt := 67) hx hb d_M_cost_48 (by decide) (fun _ => ?_) (fun c9 => absurd c9 (by decide))
      exact m_vret hx hb hr hm (Or.inr (Or.inl ⟨bv_ne w_2 c_5, (show p1 < 0 ∨ 1000000 < p1 from (Classical.not_not.mp (fun q => bv_eq w_5 c_21 (by rw [ex_3]; exact (inJ (p := p1) (lo := 0) (hi := 1000000) (a := 0) (b := 1000000) (by decide) (by decide)).mpr q)))).elim Or.inl (fun h => Or.inr (Or.inl h)), by rw [hG]⟩)) d_M_cost_67 hlocks
    · refine lv_iload_n hx hb d_M_cost_24 rfl (lv_at hl 3 rfl) ?_
      refine lv_i2l hx hb d_M_cost_25 rfl ?_
      refine lv_topl (fun x_27 ex_27 => ?_)
      refine lv_lconst (v := 0) hx hb d_M_cost_26 (by decide) ?_
      refine lv_ldc2 (v := 1000000) hx hb hown (hT _ k_589) d_M_cost_27 ?_
      refine m_roi (m_runS (As := [.long x_27, .long 0, .long 1000000]) (rest := [.ref (ad 1000)]) ⟨hx, hb, hml, hown, hts⟩ (c_M_isIn l D dA ad G H.size x_27 0 1000000) (va_cwS 3 hts (gS k_690 k_688 k_689 k_4) rfl rfl rfl (by decide +kernel) ⟨Nat.le_of_ble_eq_true rfl, Nat.le_of_ble_eq_true rfl⟩) hm hA hC rfl hl.1 rfl (Nat.le_of_ble_eq_true rfl) d_M_cost_30 ⟨Nat.le_of_ble_eq_true rfl, Nat.le_of_ble_eq_true rfl⟩) hm hA (fun r_28 H locs w_29 hm => ?_)
      refine lv_if_eq (tgt := 40) hx hb d_M_cost_33 (by decide) (fun c_33 => ?_) (fun c_33 => ?_)
      · refine lv_iconst (v := 2) hx hb d_M_cost_40 (by decide) ?_
        refine m_put (v := .int 2) (ty := .int) (C := R_M) (T := T_M) (N := 28) hx hb hT in_M t_M tok_M nm_M hown hC.1 hm 1000 rfl ((congrFun hG 1000).trans gM_o) rfl 0 (by decide) (hT _ k_590) (fun _ h9 => h9) rfl (by decide +kernel) rfl rfl (Nat.le_of_ble_eq_true rfl) d_M_cost_41 (fun H locs hm => ?_)
        obtain ⟨G_30, eG_30⟩ : ∃ z : mG, z = va_up G 1000 (some (.inr (6, [.int 2, .long sd, .int (S 2), .ref (ad 1003), .ref (ad 1004), .ref (ad 1005), .ref (ad 1006), .ref (ad 1007), .ref (ad 1008), .ref (ad 1009), .ref (ad 1010), .ref (ad 1011), .ref (ad 1012), .ref (ad 1013), .ref (ad 1014), .ref (ad 1015), .ref (ad 1016), .int (S 17), .int (S 18), .int (S 19), .int (S 20), .ref (ad 1021), .ref (ad 1022), .ref (ad 1023), .ref (ad 1024), .ref (ad 1025), .int (S 26), .int (S 27)]))) := ⟨_, rfl⟩
        have hm : mS D mCl (mA ad G s.heap.size) s.heap ad G_30 H locs := by rw [eG_30]; exact hm
        have g_31 : G_30 1000 = some (.inr (6, [.int 2, .long sd, .int (S 2), .ref (ad 1003), .ref (ad 1004), .ref (ad 1005), .ref (ad 1006), .ref (ad 1007), .ref (ad 1008), .ref (ad 1009), .ref (ad 1010), .ref (ad 1011), .ref (ad 1012), .ref (ad 1013), .ref (ad 1014), .ref (ad 1015), .ref (ad 1016), .int (S 17), .int (S 18), .int (S 19), .int (S 20), .ref (ad 1021), .ref (ad 1022), .ref (ad 1023), .ref (ad 1024), .ref (ad 1025), .int (S 26), .int (S 27)])) := by rw [eG_30, va_up_self]
        have g_32 := (congrFun eG_30 1003).trans ((va_up_ne _ _ (by decide)).trans ((congrFun hG 1003).trans gM_3))
        have g_33 := (congrFun eG_30 1004).trans ((va_up_ne _ _ (by decide)).trans ((congrFun hG 1004).trans gM_4))
        have g_34 := (congrFun eG_30 1005).trans ((va_up_ne _ _ (by decide)).trans ((congrFun hG 1005).trans gM_5))
        have g_35 := (congrFun eG_30 1006).trans ((va_up_ne _ _ (by decide)).trans ((congrFun hG 1006).trans gM_6))
        have g_36 := (congrFun eG_30 1007).trans ((va_up_ne _ _ (by decide)).trans ((congrFun hG 1007).trans gM_7))
        have g_37 := (congrFun eG_30 1008).trans ((va_up_ne _ _ (by decide)).trans ((congrFun hG 1008).trans gM_8))
        have g_38 := (congrFun eG_30 1009).trans ((va_up_ne _ _ (by decide)).trans ((congrFun hG 1009).trans gM_9))
        have g_39 := (congrFun eG_30 1010).trans ((va_up_ne _ _ (by decide)).trans ((congrFun hG 1010).trans gM_10))
        have g_40 := (congrFun eG_30 1011).trans ((va_up_ne _ _ (by decide)).trans ((congrFun hG 1011).trans gM_11))
        have g_41 := (congrFun eG_30 1012).trans ((va_up_ne _ _ (by decide)).trans ((congrFun hG 1012).trans gM_12))
        have g_42 := (congrFun eG_30 1013).trans ((va_up_ne _ _ (by decide)).trans ((congrFun hG 1013).trans gM_13))
        have g_43 := (congrFun eG_30 1014).trans ((va_up_ne _ _ (by decide)).trans ((congrFun hG 1014).trans gM_14))
        have g_44 := (congrFun eG_30 1015).trans ((va_up_ne _ _ (by decide)).trans ((congrFun hG 1015).trans gM_15))
        have g_45 := (congrFun eG_30 1016).trans ((va_up_ne _ _ (by decide)).trans ((congrFun hG 1016).trans gM_16))
        have g_46 := (congrFun eG_30 1021).trans ((va_up_ne _ _ (by decide)).trans ((congrFun hG 1021).trans gM_21))
        have g_47 := (congrFun eG_30 1022).trans ((va_up_ne _ _ (by decide)).trans ((congrFun hG 1022).trans gM_22))
        have g_48 := (congrFun eG_30 1023).trans ((va_up_ne _ _ (by decide)).trans ((congrFun hG 1023).trans gM_23))
        have g_49 := (congrFun eG_30 1024).trans ((va_up_ne _ _ (by decide)).trans ((congrFun hG 1024).trans gM_24))
        have g_50 := (congrFun eG_30 1025).trans ((va_up_ne _ _ (by decide)).trans ((congrFun hG 1025).trans gM_25))
        have hG : G_30 = gM dA ad A B (va_up S 0 2) sd G0 := by rw [eG_30, hG]; exact gM_uo (va_up S 0 2)
        refine lv_aload_n hx hb d_M_cost_44 rfl (lv_at hl 0 rfl) ?_
        refine m_get (v := .int 2) (C := R_M) (T := T_M) (N := 28) hx hb hT in_M hown hC.1 hm 1000 rfl g_31 rfl 0 (by decide) (hT _ k_590) (fun _ h9 => h9) rfl d_M_cost_45 ?_
        refine lv_if_ne (tgt := 67) hx hb d_M_cost_48 (by decide) (fun _ => ?_) (fun c9 => absurd c9 (by decide))
        exact m_vret hx hb hr hm (Or.inr (Or.inl ⟨bv_ne w_2 c_5, Or.inr (Or.inr (Classical.not_not.mp (fun q => bv_eq w_29 c_33 (by rw [ex_27]; exact (inJ (p := p2) (lo := 0) (hi := 1000000) (a := 0) (b := 1000000) (by decide) (by decide)).mpr q)))), by rw [hG]⟩)) d_M_cost_67 hlocks
      · refine lv_iconst (v := 0) hx hb d_M_cost_36 (by decide) ?_
        refine lv_goto (tgt := 41) hx hb d_M_cost_37 (by decide) ?_
        refine m_put (v := .int 0) (ty := .int) (C := R_M) (T := T_M) (N := 28) hx hb hT in_M t_M tok_M nm_M hown hC.1 hm 1000 rfl ((congrFun hG 1000).trans gM_o) rfl 0 (by decide) (hT _ k_590) (fun _ h9 => h9) rfl (by decide +kernel) rfl rfl (Nat.le_of_ble_eq_true rfl) d_M_cost_41 (fun H locs hm => ?_)
        obtain ⟨G_51, eG_51⟩ : ∃ z : mG, z = va_up G 1000 (some (.inr (6, [.int 0, .long sd, .int (S 2), .ref (ad 1003), .ref (ad 1004), .ref (ad 1005), .ref (ad 1006), .ref (ad 1007), .ref (ad 1008), .ref (ad 1009), .ref (ad 1010), .ref (ad 1011), .ref (ad 1012), .ref (ad 1013), .ref (ad 1014), .ref (ad 1015), .ref (ad 1016), .int (S 17), .int (S 18), .int (S 19), .int (S 20), .ref (ad 1021), .ref (ad 1022), .ref (ad 1023), .ref (ad 1024), .ref (ad 1025), .int (S 26), .int (S 27)]))) := ⟨_, rfl⟩
        have hm : mS D mCl (mA ad G s.heap.size) s.heap ad G_51 H locs := by rw [eG_51]; exact hm
        have g_52 : G_51 1000 = some (.inr (6, [.int 0, .long sd, .int (S 2), .ref (ad 1003), .ref (ad 1004), .ref (ad 1005), .ref (ad 1006), .ref (ad 1007), .ref (ad 1008), .ref (ad 1009), .ref (ad 1010), .ref (ad 1011), .ref (ad 1012), .ref (ad 1013), .ref (ad 1014), .ref (ad 1015), .ref (ad 1016), .int (S 17), .int (S 18), .int (S 19), .int (S 20), .ref (ad 1021), .ref (ad 1022), .ref (ad 1023), .ref (ad 1024), .ref (ad 1025), .int (S 26), .int (S 27)])) := by rw [eG_51, va_up_self]
        have g_53 := (congrFun eG_51 1003).trans ((va_up_ne _ _ (by decide)).trans ((congrFun hG 1003).trans gM_3))
        have g_54 := (congrFun eG_51 1004).trans ((va_up_ne _ _ (by decide)).trans ((congrFun hG 1004).trans gM_4))
        have g_55 := (congrFun eG_51 1005).trans ((va_up_ne _ _ (by decide)).trans ((congrFun hG 1005).trans gM_5))
        have g_56 := (congrFun eG_51 1006).trans ((va_up_ne _ _ (by decide)).trans ((congrFun hG 1006).trans gM_6))
        have g_57 := (congrFun eG_51 1007).trans ((va_up_ne _ _ (by decide)).trans ((congrFun hG 1007).trans gM_7))
        have g_58 := (congrFun eG_51 1008).trans ((va_up_ne _ _ (by decide)).trans ((congrFun hG 1008).trans gM_8))
        have g_59 := (congrFun eG_51 1009).trans ((va_up_ne _ _ (by decide)).trans ((congrFun hG 1009).trans gM_9))
        have g_60 := (congrFun eG_51 1010).trans ((va_up_ne _ _ (by decide)).trans ((congrFun hG 1010).trans gM_10))
        have g_61 := (congrFun eG_51 1011).trans ((va_up_ne _ _ (by decide)).trans ((congrFun hG 1011).trans gM_11))
        have g_62 := (congrFun eG_51 1012).trans ((va_up_ne _ _ (by decide)).trans ((congrFun hG 1012).trans gM_12))
        have g_63 := (congrFun eG_51 1013).trans ((va_up_ne _ _ (by decide)).trans ((congrFun hG 1013).trans gM_13))
        have g_64 := (congrFun eG_51 1014).trans ((va_up_ne _ _ (by decide)).trans ((congrFun hG 1014).trans gM_14))
        have g_65 := (congrFun eG_51 1015).trans ((va_up_ne _ _ (by decide)).trans ((congrFun hG 1015).trans gM_15))
        have g_66 := (congrFun eG_51 1016).trans ((va_up_ne _ _ (by decide)).trans ((congrFun hG 1016).trans gM_16))
        have g_67 := (congrFun eG_51 1021).trans ((va_up_ne _ _ (by decide)).trans ((congrFun hG 1021).trans gM_21))
        have g_68 := (congrFun eG_51 1022).trans ((va_up_ne _ _ (by decide)).trans ((congrFun hG 1022).trans gM_22))
        have g_69 := (congrFun eG_51 1023).trans ((va_up_ne _ _ (by decide)).trans ((congrFun hG 1023).trans gM_23))
        have g_70 := (congrFun eG_51 1024).trans ((va_up_ne _ _ (by decide)).trans ((congrFun hG 1024).trans gM_24))
        have g_71 := (congrFun eG_51 1025).trans ((va_up_ne _ _ (by decide)).trans ((congrFun hG 1025).trans gM_25))
        have hG : G_51 = gM dA ad A B (va_up S 0 0) sd G0 := by rw [eG_51, hG]; exact gM_uo (va_up S 0 0)
        refine lv_aload_n hx hb d_M_cost_44 rfl (lv_at hl 0 rfl) ?_
        refine m_get (v := .int 0) (C := R_M) (T := T_M) (N := 28) hx hb hT in_M hown hC.1 hm 1000 rfl g_52 rfl 0 (by decide) (hT _ k_590) (fun _ h9 => h9) rfl d_M_cost_45 ?_
        refine lv_if_ne (tgt := 67) hx hb d_M_cost_48 (by decide) (fun c9 => absurd c9 (by decide)) (fun _ => ?_)
        obtain ⟨i, hi, epi⟩ := bv_ne w_2 c_5
        have hi1 : ¬ (p1 < 0 ∨ 1000000 < p1) := (inJ (p := p1) (lo := 0) (hi := 1000000) (a := 0) (b := 1000000) (by decide) (by decide)).mp (by have h9 := bv_ne w_5 c_21; rw [ex_3] at h9; exact h9)
        have hi2 : ¬ (p2 < 0 ∨ 1000000 < p2) := (inJ (p := p2) (lo := 0) (hi := 1000000) (a := 0) (b := 1000000) (by decide) (by decide)).mp (by have h9 := bv_ne w_29 c_33; rw [ex_27] at h9; exact h9)
        refine lv_aload_n hx hb d_M_cost_51 rfl (lv_at hl 0 rfl) ?_
        refine m_get (v := .ref (ad 1015)) (C := R_M) (T := T_M) (N := 28) hx hb hT in_M hown hC.1 hm 1000 rfl g_52 rfl 15 (by decide) (hT _ k_605) (fun _ h9 => h9) rfl d_M_cost_52 ?_
        refine lv_iload_n hx hb d_M_cost_55 rfl (lv_at hl 1 rfl) ?_
        refine lv_iload_n hx hb d_M_cost_56 rfl (lv_at hl 2 rfl) ?_
        refine lv_i2l hx hb d_M_cost_57 rfl ?_
        refine lv_topl (fun x_72 ex_72 => ?_)
        refine m_last hx hb hC.1 hm 1015 rfl 1 g_65 rfl (by rw [epi]; exact vp_in_nI (by omega) (by decide)) d_M_cost_58 (fun H locs hm => ?_)
        rw [show (p0).toNatClampNeg = i by rw [epi, nI_clamp (by omega)]] at hm
        obtain ⟨G_73, eG_73⟩ : ∃ z : mG, z = va_up G_51 1015 (some (.inl ((dA 1), 4, .inr (.inl (vp_updL (B 15) i x_72))))) := ⟨_, rfl⟩
        have hm : mS D mCl (mA ad G s.heap.size) s.heap ad G_73 H locs := by rw [eG_73]; exact hm
        have g_74 := (congrFun eG_73 1000).trans ((va_up_ne _ _ (by decide)).trans g_52)
        have g_75 := (congrFun eG_73 1003).trans ((va_up_ne _ _ (by decide)).trans g_53)
        have g_76 := (congrFun eG_73 1004).trans ((va_up_ne _ _ (by decide)).trans g_54)
        have g_77 := (congrFun eG_73 1005).trans ((va_up_ne _ _ (by decide)).trans g_55)
        have g_78 := (congrFun eG_73 1006).trans ((va_up_ne _ _ (by decide)).trans g_56)
        have g_79 := (congrFun eG_73 1007).trans ((va_up_ne _ _ (by decide)).trans g_57)
        have g_80 := (congrFun eG_73 1008).trans ((va_up_ne _ _ (by decide)).trans g_58)
        have g_81 := (congrFun eG_73 1009).trans ((va_up_ne _ _ (by decide)).trans g_59)
        have g_82 := (congrFun eG_73 1010).trans ((va_up_ne _ _ (by decide)).trans g_60)
        have g_83 := (congrFun eG_73 1011).trans ((va_up_ne _ _ (by decide)).trans g_61)
        have g_84 := (congrFun eG_73 1012).trans ((va_up_ne _ _ (by decide)).trans g_62)
        have g_85 := (congrFun eG_73 1013).trans ((va_up_ne _ _ (by decide)).trans g_63)
        have g_86 := (congrFun eG_73 1014).trans ((va_up_ne _ _ (by decide)).trans g_64)
        have g_87 : G_73 1015 = some (.inl ((dA 1), 4, .inr (.inl (vp_updL (B 15) i x_72)))) := by rw [eG_73, va_up_self]
        have g_88 := (congrFun eG_73 1016).trans ((va_up_ne _ _ (by decide)).trans g_66)
        have g_89 := (congrFun eG_73 1021).trans ((va_up_ne _ _ (by decide)).trans g_67)
        have g_90 := (congrFun eG_73 1022).trans ((va_up_ne _ _ (by decide)).trans g_68)
        have g_91 := (congrFun eG_73 1023).trans ((va_up_ne _ _ (by decide)).trans g_69)
        have g_92 := (congrFun eG_73 1024).trans ((va_up_ne _ _ (by decide)).trans g_70)
        have g_93 := (congrFun eG_73 1025).trans ((va_up_ne _ _ (by decide)).trans g_71)
        have hG : G_73 = gM dA ad A (va_up B 15 (vp_updL (B 15) i x_72)) (va_up S 0 0) sd G0 := by rw [eG_73, hG]; exact gM_u15 _
        refine lv_aload_n hx hb d_M_cost_59 rfl (lv_at hl 0 rfl) ?_
        refine m_get (v := .ref (ad 1016)) (C := R_M) (T := T_M) (N := 28) hx hb hT in_M hown hC.1 hm 1000 rfl g_74 rfl 16 (by decide) (hT _ k_606) (fun _ h9 => h9) rfl d_M_cost_60 ?_
        refine lv_iload_n hx hb d_M_cost_63 rfl (lv_at hl 1 rfl) ?_
        refine lv_iload_n hx hb d_M_cost_64 rfl (lv_at hl 3 rfl) ?_
        refine lv_i2l hx hb d_M_cost_65 rfl ?_
        refine lv_topl (fun x_94 ex_94 => ?_)
        refine m_last hx hb hC.1 hm 1016 rfl 1 g_88 rfl (by rw [epi]; exact vp_in_nI (by omega) (by decide)) d_M_cost_66 (fun H locs hm => ?_)
        rw [show (p0).toNatClampNeg = i by rw [epi, nI_clamp (by omega)]] at hm
        obtain ⟨G_95, eG_95⟩ : ∃ z : mG, z = va_up G_73 1016 (some (.inl ((dA 1), 4, .inr (.inl (vp_updL (B 16) i x_94))))) := ⟨_, rfl⟩
        have hm : mS D mCl (mA ad G s.heap.size) s.heap ad G_95 H locs := by rw [eG_95]; exact hm
        have g_96 := (congrFun eG_95 1000).trans ((va_up_ne _ _ (by decide)).trans g_74)
        have g_97 := (congrFun eG_95 1003).trans ((va_up_ne _ _ (by decide)).trans g_75)
        have g_98 := (congrFun eG_95 1004).trans ((va_up_ne _ _ (by decide)).trans g_76)
        have g_99 := (congrFun eG_95 1005).trans ((va_up_ne _ _ (by decide)).trans g_77)
        have g_100 := (congrFun eG_95 1006).trans ((va_up_ne _ _ (by decide)).trans g_78)
        have g_101 := (congrFun eG_95 1007).trans ((va_up_ne _ _ (by decide)).trans g_79)
        have g_102 := (congrFun eG_95 1008).trans ((va_up_ne _ _ (by decide)).trans g_80)
        have g_103 := (congrFun eG_95 1009).trans ((va_up_ne _ _ (by decide)).trans g_81)
        have g_104 := (congrFun eG_95 1010).trans ((va_up_ne _ _ (by decide)).trans g_82)
        have g_105 := (congrFun eG_95 1011).trans ((va_up_ne _ _ (by decide)).trans g_83)
        have g_106 := (congrFun eG_95 1012).trans ((va_up_ne _ _ (by decide)).trans g_84)
        have g_107 := (congrFun eG_95 1013).trans ((va_up_ne _ _ (by decide)).trans g_85)
        have g_108 := (congrFun eG_95 1014).trans ((va_up_ne _ _ (by decide)).trans g_86)
        have g_109 := (congrFun eG_95 1015).trans ((va_up_ne _ _ (by decide)).trans g_87)
        have g_110 : G_95 1016 = some (.inl ((dA 1), 4, .inr (.inl (vp_updL (B 16) i x_94)))) := by rw [eG_95, va_up_self]
        have g_111 := (congrFun eG_95 1021).trans ((va_up_ne _ _ (by decide)).trans g_89)
        have g_112 := (congrFun eG_95 1022).trans ((va_up_ne _ _ (by decide)).trans g_90)
        have g_113 := (congrFun eG_95 1023).trans ((va_up_ne _ _ (by decide)).trans g_91)
        have g_114 := (congrFun eG_95 1024).trans ((va_up_ne _ _ (by decide)).trans g_92)
        have g_115 := (congrFun eG_95 1025).trans ((va_up_ne _ _ (by decide)).trans g_93)
        have hG : G_95 = gM dA ad A (va_up (va_up B 15 (vp_updL (B 15) i x_72)) 16 (vp_updL (B 16) i x_94)) (va_up S 0 0) sd G0 := by rw [eG_95, hG]; exact gM_u16 _
        exact m_vret hx hb hr hm (Or.inr (Or.inr (⟨i, hi, epi, fun h => h.elim (fun h => hi1 (Or.inl h)) (fun h => h.elim (fun h => hi1 (Or.inr h)) hi2), by rw [hG, ex_94, ex_72]⟩))) d_M_cost_67 hlocks
  · refine lv_iconst (v := 1) hx hb d_M_cost_8 (by decide) ?_
    refine lv_goto (tgt := 41) hx hb d_M_cost_9 (by decide) ?_
    refine m_put (v := .int 1) (ty := .int) (C := R_M) (T := T_M) (N := 28) hx hb hT in_M t_M tok_M nm_M hown hC.1 hm 1000 rfl ((congrFun hG 1000).trans gM_o) rfl 0 (by decide) (hT _ k_590) (fun _ h9 => h9) rfl (by decide +kernel) rfl rfl (Nat.le_of_ble_eq_true rfl) d_M_cost_41 (fun H locs hm => ?_)
    obtain ⟨G_116, eG_116⟩ : ∃ z : mG, z = va_up G 1000 (some (.inr (6, [.int 1, .long sd, .int (S 2), .ref (ad 1003), .ref (ad 1004), .ref (ad 1005), .ref (ad 1006), .ref (ad 1007), .ref (ad 1008), .ref (ad 1009), .ref (ad 1010), .ref (ad 1011), .ref (ad 1012), .ref (ad 1013), .ref (ad 1014), .ref (ad 1015), .ref (ad 1016), .int (S 17), .int (S 18), .int (S 19), .int (S 20), .ref (ad 1021), .ref (ad 1022), .ref (ad 1023), .ref (ad 1024), .ref (ad 1025), .int (S 26), .int (S 27)]))) := ⟨_, rfl⟩
    have hm : mS D mCl (mA ad G s.heap.size) s.heap ad G_116 H locs := by rw [eG_116]; exact hm
    have g_117 : G_116 1000 = some (.inr (6, [.int 1, .long sd, .int (S 2), .ref (ad 1003), .ref (ad 1004), .ref (ad 1005), .ref (ad 1006), .ref (ad 1007), .ref (ad 1008), .ref (ad 1009), .ref (ad 1010), .ref (ad 1011), .ref (ad 1012), .ref (ad 1013), .ref (ad 1014), .ref (ad 1015), .ref (ad 1016), .int (S 17), .int (S 18), .int (S 19), .int (S 20), .ref (ad 1021), .ref (ad 1022), .ref (ad 1023), .ref (ad 1024), .ref (ad 1025), .int (S 26), .int (S 27)])) := by rw [eG_116, va_up_self]
    have g_118 := (congrFun eG_116 1003).trans ((va_up_ne _ _ (by decide)).trans ((congrFun hG 1003).trans gM_3))
    have g_119 := (congrFun eG_116 1004).trans ((va_up_ne _ _ (by decide)).trans ((congrFun hG 1004).trans gM_4))
    have g_120 := (congrFun eG_116 1005).trans ((va_up_ne _ _ (by decide)).trans ((congrFun hG 1005).trans gM_5))
    have g_121 := (congrFun eG_116 1006).trans ((va_up_ne _ _ (by decide)).trans ((congrFun hG 1006).trans gM_6))
    have g_122 := (congrFun eG_116 1007).trans ((va_up_ne _ _ (by decide)).trans ((congrFun hG 1007).trans gM_7))
    have g_123 := (congrFun eG_116 1008).trans ((va_up_ne _ _ (by decide)).trans ((congrFun hG 1008).trans gM_8))
    have g_124 := (congrFun eG_116 1009).trans ((va_up_ne _ _ (by decide)).trans ((congrFun hG 1009).trans gM_9))
    have g_125 := (congrFun eG_116 1010).trans ((va_up_ne _ _ (by decide)).trans ((congrFun hG 1010).trans gM_10))
    have g_126 := (congrFun eG_116 1011).trans ((va_up_ne _ _ (by decide)).trans ((congrFun hG 1011).trans gM_11))
    have g_127 := (congrFun eG_116 1012).trans ((va_up_ne _ _ (by decide)).trans ((congrFun hG 1012).trans gM_12))
    have g_128 := (congrFun eG_116 1013).trans ((va_up_ne _ _ (by decide)).trans ((congrFun hG 1013).trans gM_13))
    have g_129 := (congrFun eG_116 1014).trans ((va_up_ne _ _ (by decide)).trans ((congrFun hG 1014).trans gM_14))
    have g_130 := (congrFun eG_116 1015).trans ((va_up_ne _ _ (by decide)).trans ((congrFun hG 1015).trans gM_15))
    have g_131 := (congrFun eG_116 1016).trans ((va_up_ne _ _ (by decide)).trans ((congrFun hG 1016).trans gM_16))
    have g_132 := (congrFun eG_116 1021).trans ((va_up_ne _ _ (by decide)).trans ((congrFun hG 1021).trans gM_21))
    have g_133 := (congrFun eG_116 1022).trans ((va_up_ne _ _ (by decide)).trans ((congrFun hG 1022).trans gM_22))
    have g_134 := (congrFun eG_116 1023).trans ((va_up_ne _ _ (by decide)).trans ((congrFun hG 1023).trans gM_23))
    have g_135 := (congrFun eG_116 1024).trans ((va_up_ne _ _ (by decide)).trans ((congrFun hG 1024).trans gM_24))
    have g_136 := (congrFun eG_116 1025).trans ((va_up_ne _ _ (by decide)).trans ((congrFun hG 1025).trans gM_25))
    have hG : G_116 = gM dA ad A B (va_up S 0 1) sd G0 := by rw [eG_116, hG]; exact gM_uo (va_up S 0 1)
    refine lv_aload_n hx hb d_M_cost_44 rfl (lv_at hl 0 rfl) ?_
    refine m_get (v := .int 1) (C := R_M) (T := T_M) (N := 28) hx hb hT in_M hown hC.1 hm 1000 rfl g_117 rfl 0 (by decide) (hT _ k_590) (fun _ h9 => h9) rfl d_M_cost_45 ?_
    refine lv_if_ne (tgt := 67) hx hb d_M_cost_48 (by decide) (fun _ => ?_) (fun c9 => absurd c9 (by decide))
    exact m_vret hx hb hr hm (Or.inl ⟨bv_eq w_2 c_5, by rw [hG]⟩) d_M_cost_67 hlocks
