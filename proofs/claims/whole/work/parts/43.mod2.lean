set_option maxHeartbeats 4000000 in
set_option maxRecDepth 100000 in
theorem c_M_tool (l : Launch) (D : va_G) (dA : Nat → ClassId) (ad : Nat → Nat) (G : mG) (sz : Nat) (A : Nat → Nat → Int32) (B : Nat → Nat → Int64) (S : Nat → Int32) (sd : Int64) (G0 : mG) (hG : G = gM dA ad A B S sd G0) (tc : Nat) (hS : S 2 = nI tc) (ht : tc ≤ 12) (p0 p1 p2 : Int32) : Met l y_M_tool (.code y_M_tool b_M_tool 4 (some .int) :: mBig) ({ frames := 1, cells := 0, slots := 0, locals := 25 }) (mPc [.ref (ad 1000), .int p0, .int p1, .int p2] D mCl (mTys dA) mTx ad G sz) (mQi (fun (rv : Int32) (u : mU) => ((¬ (∃ i, i < 4 ∧ p0 = nI i) ∧ u = (ad, gM dA ad A B (va_up S 0 1) sd G0)) ∨ ((∃ i, i < 4 ∧ p0 = nI i) ∧ (1000000 < p1 ∨ p2 < 0 ∨ p1 < p2) ∧ u = (ad, gM dA ad A B (va_up S 0 2) sd G0)) ∨ ((∃ i, i < 4 ∧ p0 = nI i) ∧ ¬ (1000000 < p1 ∨ p2 < 0 ∨ p1 < p2) ∧ tc = 12 ∧ u = (ad, gM dA ad A B (va_up S 0 3) sd G0)) ∨ ((∃ i, i < 4 ∧ p0 = nI i) ∧ ¬ (1000000 < p1 ∨ p2 < 0 ∨ p1 < p2) ∧ tc < 12 ∧ rv = nI tc ∧ u = (ad, gM dA ad (va_up (va_up (va_up A 3 (upd (A 3) tc p0)) 4 (upd (A 4) tc p1)) 5 (upd (A 5) tc p2)) B (va_up (va_up S 0 0) 2 (nI (tc + 1))) sd G0)))) D mCl ad G sz) 0 0 (mA ad G sz) := by
  refine Met.ofW (cc := b_M_tool) (maxL := 4) (ret := (some .int)) (by decide) rfl ?_
  intro p e s m args below meth c s₁ BB hml hv
  obtain ⟨rfl, hsz, hw0, hC⟩ := hv
  have hx := BB.exec
  have hb := BB.bytes
  have hr := BB.returns
  have hts := atoms_spec (ws := .code y_M_tool b_M_tool 4 (some .int) :: mBig) BB.pre
  have hT : ∀ w ∈ mBig, w.before _ s = true := fun w h => hts w (List.mem_cons_of_mem _ h)
  have hown : s.vm.findClass "EdgeWearModel" = some m.cls := findClass_of_methodNamed BB.named
  have hlocks := BB.notSynchronized
  subst hsz
  have hm := mS.start hw0
  have hA : ∀ q : Nat, s.heap.size ≤ q → mA ad G s.heap.size q := fun q h => Or.inr h
  have hl := lv_entry ([.ref (ad 1000), .int p0, .int p1, .int p2]) (n := 4) (Nat.le_of_ble_eq_true rfl)
  rw [lg_entry_eq]
  generalize (lg_sl ([.ref (ad 1000), .int p0, .int p1, .int p2]) ++ List.replicate (4 - (lg_sl ([.ref (ad 1000), .int p0, .int p1, .int p2])).length) Slot.unset).toArray = ls at hl ⊢
  have hl : lv_has ls 4 [(0, .ref (ad 1000)), (1, .int p0), (2, .int p1), (3, .int p2)] := hl
  refine lv_aload_n hx hb d_M_tool_0 rfl (lv_at hl 0 rfl) ?_
  refine lv_iload_n hx hb d_M_tool_1 rfl (lv_at hl 1 rfl) ?_
  refine m_roi (m_runS (As := [.int p0]) (rest := [.ref (ad 1000)]) ⟨hx, hb, hml, hown, hts⟩ (c_M_isFour l D dA ad G s.heap.size p0) (va_cwS 1 hts (gS k_687 k_685 k_686 k_4) rfl rfl rfl (by decide +kernel) ⟨Nat.le_of_ble_eq_true rfl, Nat.le_of_ble_eq_true rfl⟩) hm hA hC rfl hl.1 rfl (Nat.le_of_ble_eq_true rfl) d_M_tool_2 ⟨Nat.le_of_ble_eq_true rfl, Nat.le_of_ble_eq_true rfl⟩) hm hA (fun r_1 H locs w_2 hm => ?_)
  refine lv_if_ne (tgt := 12) hx hb d_M_tool_5 (by decide) (fun c_5 => ?_) (fun c_5 => ?_)
  · refine lv_iload_n hx hb d_M_tool_12 rfl (lv_at hl 3 rfl) ?_
    refine lv_i2l hx hb d_M_tool_13 rfl ?_
    refine lv_topl (fun x_3 ex_3 => ?_)
    refine lv_lconst (v := 0) hx hb d_M_tool_14 (by decide) ?_
    refine lv_iload_n hx hb d_M_tool_15 rfl (lv_at hl 2 rfl) ?_
    refine lv_i2l hx hb d_M_tool_16 rfl ?_
    refine lv_topl (fun x_4 ex_4 => ?_)
    refine m_roi (m_runS (As := [.long x_3, .long 0, .long x_4]) (rest := [.ref (ad 1000)]) ⟨hx, hb, hml, hown, hts⟩ (c_M_isIn l D dA ad G H.size x_3 0 x_4) (va_cwS 3 hts (gS k_690 k_688 k_689 k_4) rfl rfl rfl (by decide +kernel) ⟨Nat.le_of_ble_eq_true rfl, Nat.le_of_ble_eq_true rfl⟩) hm hA hC rfl hl.1 rfl (Nat.le_of_ble_eq_true rfl) d_M_tool_17 ⟨Nat.le_of_ble_eq_true rfl, Nat.le_of_ble_eq_true rfl⟩) hm hA (fun r_5 H locs w_6 hm => ?_)
    refine lv_if_eq (tgt := 29) hx hb d_M_tool_20 (by decide) (fun c_20 => ?_) (fun c_20 => ?_)
    · refine lv_iconst (v := 2) hx hb d_M_tool_29 (by decide) ?_
      refine lv_goto (tgt := 47) hx hb d_M_tool_30 (by decide) ?_
      refine m_put (v := .int 2) (ty := .int) (C := R_M) (T := T_M) (N := 28) hx hb hT in_M t_M tok_M nm_M hown hC.1 hm 1000 rfl ((congrFun hG 1000).trans gM_o) rfl 0 (by decide) (hT _ k_590) (fun _ h9 => h9) rfl (by decide +kernel) rfl rfl (Nat.le_of_ble_eq_true rfl) d_M_tool_47 (fun H locs hm => ?_)
      obtain ⟨G_7, eG_7⟩ : ∃ z : mG, z = va_up G 1000 (some (.inr (6, [.int 2, .long sd, .int (S 2), .ref (ad 1003), .ref (ad 1004), .ref (ad 1005), .ref (ad 1006), .ref (ad 1007), .ref (ad 1008), .ref (ad 1009), .ref (ad 1010), .ref (ad 1011), .ref (ad 1012), .ref (ad 1013), .ref (ad 1014), .ref (ad 1015), .ref (ad 1016), .int (S 17), .int (S 18), .int (S 19), .int (S 20), .ref (ad 1021), .ref (ad 1022), .ref (ad 1023), .ref (ad 1024), .ref (ad 1025), .int (S 26), .int (S 27)]))) := ⟨_, rfl⟩
      have hm : mS D mCl (mA ad G s.heap.size) s.heap ad G_7 H locs := by rw [eG_7]; exact hm
      have g_8 : G_7 1000 = some (.inr (6, [.int 2, .long sd, .int (S 2), .ref (ad 1003), .ref (ad 1004), .ref (ad 1005), .ref (ad 1006), .ref (ad 1007), .ref (ad 1008), .ref (ad 1009), .ref (ad 1010), .ref (ad 1011), .ref (ad 1012), .ref (ad 1013), .ref (ad 1014), .ref (ad 1015), .ref (ad 1016), .int (S 17), .int (S 18), .int (S 19), .int (S 20), .ref (ad 1021), .ref (ad 1022), .ref (ad 1023), .ref (ad 1024), .ref (ad 1025), .int (S 26), .int (S 27)])) := by rw [eG_7, va_up_self]
      have g_9 := (congrFun eG_7 1003).trans ((va_up_ne _ _ (by decide)).trans ((congrFun hG 1003).trans gM_3))
      have g_10 := (congrFun eG_7 1004).trans ((va_up_ne _ _ (by decide)).trans ((congrFun hG 1004).trans gM_4))
      have g_11 := (congrFun eG_7 1005).trans ((va_up_ne _ _ (by decide)).trans ((congrFun hG 1005).trans gM_5))
      have g_12 := (congrFun eG_7 1006).trans ((va_up_ne _ _ (by decide)).trans ((congrFun hG 1006).trans gM_6))
      have g_13 := (congrFun eG_7 1007).trans ((va_up_ne _ _ (by decide)).trans ((congrFun hG 1007).trans gM_7))
      have g_14 := (congrFun eG_7 1008).trans ((va_up_ne _ _ (by decide)).trans ((congrFun hG 1008).trans gM_8))
      have g_15 := (congrFun eG_7 1009).trans ((va_up_ne _ _ (by decide)).trans ((congrFun hG 1009).trans gM_9))
      have g_16 := (congrFun eG_7 1010).trans ((va_up_ne _ _ (by decide)).trans ((congrFun hG 1010).trans gM_10))
      have g_17 := (congrFun eG_7 1011).trans ((va_up_ne _ _ (by decide)).trans ((congrFun hG 1011).trans gM_11))
      have g_18 := (congrFun eG_7 1012).trans ((va_up_ne _ _ (by decide)).trans ((congrFun hG 1012).trans gM_12))
      have g_19 := (congrFun eG_7 1013).trans ((va_up_ne _ _ (by decide)).trans ((congrFun hG 1013).trans gM_13))
      have g_20 := (congrFun eG_7 1014).trans ((va_up_ne _ _ (by decide)).trans ((congrFun hG 1014).trans gM_14))
      have g_21 := (congrFun eG_7 1015).trans ((va_up_ne _ _ (by decide)).trans ((congrFun hG 1015).trans gM_15))
      have g_22 := (congrFun eG_7 1016).trans ((va_up_ne _ _ (by decide)).trans ((congrFun hG 1016).trans gM_16))
      have g_23 := (congrFun eG_7 1021).trans ((va_up_ne _ _ (by decide)).trans ((congrFun hG 1021).trans gM_21))
      have g_24 := (congrFun eG_7 1022).trans ((va_up_ne _ _ (by decide)).trans ((congrFun hG 1022).trans gM_22))
      have g_25 := (congrFun eG_7 1023).trans ((va_up_ne _ _ (by decide)).trans ((congrFun hG 1023).trans gM_23))
      have g_26 := (congrFun eG_7 1024).trans ((va_up_ne _ _ (by decide)).trans ((congrFun hG 1024).trans gM_24))
      have g_27 := (congrFun eG_7 1025).trans ((va_up_ne _ _ (by decide)).trans ((congrFun hG 1025).trans gM_25))
      have hG : G_7 = gM dA ad A B (va_up S 0 2) sd G0 := by rw [eG_7, hG]; exact gM_uo (va_up S 0 2)
      refine lv_aload_n hx hb d_M_tool_50 rfl (lv_at hl 0 rfl) ?_
      refine m_get (v := .int 2) (C := R_M) (T := T_M) (N := 28) hx hb hT in_M hown hC.1 hm 1000 rfl g_8 rfl 0 (by decide) (hT _ k_590) (fun _ h9 => h9) rfl d_M_tool_51 ?_
      refine lv_if_le (tgt := 59) hx hb d_M_tool_54 (by decide) (fun c9 => absurd c9 (by decide)) (fun _ => ?_)
      refine lv_iconst (v := 0) hx hb d_M_tool_57 (by decide) ?_
      exact m_iret (v := 0) hx hb hr hm (Or.inr (Or.inl ⟨bv_ne w_2 c_5, Or.inr (Classical.not_not.mp (fun q => bv_eq w_6 c_20 (by rw [ex_3, ex_4]; exact (inJ (p := p2) (lo := 0) (hi := p1) (a := 0) (b := p1.toInt64) (by decide) rfl).mpr q))), by rw [hG]⟩)) d_M_tool_58 hlocks
    · refine lv_iload_n hx hb d_M_tool_23 rfl (lv_at hl 2 rfl) ?_
      refine lv_ldc (v := 1000000) hx hb hown (hT _ k_691) d_M_tool_24 ?_
      refine lv_icmp_le (tgt := 33) hx hb d_M_tool_26 (by decide) (fun c_26 => ?_) (fun c_26 => ?_)
      · refine lv_aload_n hx hb d_M_tool_33 rfl (lv_at hl 0 rfl) ?_
        refine m_get (v := .int (S 2)) (C := R_M) (T := T_M) (N := 28) hx hb hT in_M hown hC.1 hm 1000 rfl ((congrFun hG 1000).trans gM_o) rfl 2 (by decide) (hT _ k_592) (fun _ h9 => h9) rfl d_M_tool_34 ?_
        refine lv_bipush (v := 12) hx hb d_M_tool_37 (by decide) ?_
        refine lv_icmp_ne (tgt := 46) hx hb d_M_tool_39 (by decide) (fun c_39 => ?_) (fun c_39 => ?_)
        · have ht12 : tc < 12 := by
            rw [hS] at c_39
            have : ¬ tc = 12 := fun q => c_39 (by rw [q]; rfl)
            omega
          refine lv_iconst (v := 0) hx hb d_M_tool_46 (by decide) ?_
          refine m_put (v := .int 0) (ty := .int) (C := R_M) (T := T_M) (N := 28) hx hb hT in_M t_M tok_M nm_M hown hC.1 hm 1000 rfl ((congrFun hG 1000).trans gM_o) rfl 0 (by decide) (hT _ k_590) (fun _ h9 => h9) rfl (by decide +kernel) rfl rfl (Nat.le_of_ble_eq_true rfl) d_M_tool_47 (fun H locs hm => ?_)
          obtain ⟨G_28, eG_28⟩ : ∃ z : mG, z = va_up G 1000 (some (.inr (6, [.int 0, .long sd, .int (S 2), .ref (ad 1003), .ref (ad 1004), .ref (ad 1005), .ref (ad 1006), .ref (ad 1007), .ref (ad 1008), .ref (ad 1009), .ref (ad 1010), .ref (ad 1011), .ref (ad 1012), .ref (ad 1013), .ref (ad 1014), .ref (ad 1015), .ref (ad 1016), .int (S 17), .int (S 18), .int (S 19), .int (S 20), .ref (ad 1021), .ref (ad 1022), .ref (ad 1023), .ref (ad 1024), .ref (ad 1025), .int (S 26), .int (S 27)]))) := ⟨_, rfl⟩
          have hm : mS D mCl (mA ad G s.heap.size) s.heap ad G_28 H locs := by rw [eG_28]; exact hm
          have g_29 : G_28 1000 = some (.inr (6, [.int 0, .long sd, .int (S 2), .ref (ad 1003), .ref (ad 1004), .ref (ad 1005), .ref (ad 1006), .ref (ad 1007), .ref (ad 1008), .ref (ad 1009), .ref (ad 1010), .ref (ad 1011), .ref (ad 1012), .ref (ad 1013), .ref (ad 1014), .ref (ad 1015), .ref (ad 1016), .int (S 17), .int (S 18), .int (S 19), .int (S 20), .ref (ad 1021), .ref (ad 1022), .ref (ad 1023), .ref (ad 1024), .ref (ad 1025), .int (S 26), .int (S 27)])) := by rw [eG_28, va_up_self]
          have g_30 := (congrFun eG_28 1003).trans ((va_up_ne _ _ (by decide)).trans ((congrFun hG 1003).trans gM_3))
          have g_31 := (congrFun eG_28 1004).trans ((va_up_ne _ _ (by decide)).trans ((congrFun hG 1004).trans gM_4))
          have g_32 := (congrFun eG_28 1005).trans ((va_up_ne _ _ (by decide)).trans ((congrFun hG 1005).trans gM_5))
          have g_33 := (congrFun eG_28 1006).trans ((va_up_ne _ _ (by decide)).trans ((congrFun hG 1006).trans gM_6))
          have g_34 := (congrFun eG_28 1007).trans ((va_up_ne _ _ (by decide)).trans ((congrFun hG 1007).trans gM_7))
          have g_35 := (congrFun eG_28 1008).trans ((va_up_ne _ _ (by decide)).trans ((congrFun hG 1008).trans gM_8))
          have g_36 := (congrFun eG_28 1009).trans ((va_up_ne _ _ (by decide)).trans ((congrFun hG 1009).trans gM_9))
          have g_37 := (congrFun eG_28 1010).trans ((va_up_ne _ _ (by decide)).trans ((congrFun hG 1010).trans gM_10))
          have g_38 := (congrFun eG_28 1011).trans ((va_up_ne _ _ (by decide)).trans ((congrFun hG 1011).trans gM_11))
          have g_39 := (congrFun eG_28 1012).trans ((va_up_ne _ _ (by decide)).trans ((congrFun hG 1012).trans gM_12))
          have g_40 := (congrFun eG_28 1013).trans ((va_up_ne _ _ (by decide)).trans ((congrFun hG 1013).trans gM_13))
          have g_41 := (congrFun eG_28 1014).trans ((va_up_ne _ _ (by decide)).trans ((congrFun hG 1014).trans gM_14))
          have g_42 := (congrFun eG_28 1015).trans ((va_up_ne _ _ (by decide)).trans ((congrFun hG 1015).trans gM_15))
          have g_43 := (congrFun eG_28 1016).trans ((va_up_ne _ _ (by decide)).trans ((congrFun hG 1016).trans gM_16))
          have g_44 := (congrFun eG_28 1021).trans ((va_up_ne _ _ (by decide)).trans ((congrFun hG 1021).trans gM_21))
          have g_45 := (congrFun eG_28 1022).trans ((va_up_ne _ _ (by decide)).trans ((congrFun hG 1022).trans gM_22))
          have g_46 := (congrFun eG_28 1023).trans ((va_up_ne _ _ (by decide)).trans ((congrFun hG 1023).trans gM_23))
          have g_47 := (congrFun eG_28 1024).trans ((va_up_ne _ _ (by decide)).trans ((congrFun hG 1024).trans gM_24))
          have g_48 := (congrFun eG_28 1025).trans ((va_up_ne _ _ (by decide)).trans ((congrFun hG 1025).trans gM_25))
          have hG : G_28 = gM dA ad A B (va_up S 0 0) sd G0 := by rw [eG_28, hG]; exact gM_uo (va_up S 0 0)
          refine lv_aload_n hx hb d_M_tool_50 rfl (lv_at hl 0 rfl) ?_
          refine m_get (v := .int 0) (C := R_M) (T := T_M) (N := 28) hx hb hT in_M hown hC.1 hm 1000 rfl g_29 rfl 0 (by decide) (hT _ k_590) (fun _ h9 => h9) rfl d_M_tool_51 ?_
          refine lv_if_le (tgt := 59) hx hb d_M_tool_54 (by decide) (fun _ => ?_) (fun c9 => absurd (by decide) c9)
          refine lv_aload_n hx hb d_M_tool_59 rfl (lv_at hl 0 rfl) ?_
          refine m_get (v := .ref (ad 1003)) (C := R_M) (T := T_M) (N := 28) hx hb hT in_M hown hC.1 hm 1000 rfl g_29 rfl 3 (by decide) (hT _ k_593) (fun _ h9 => h9) rfl d_M_tool_60 ?_
          refine lv_aload_n hx hb d_M_tool_63 rfl (lv_at hl 0 rfl) ?_
          refine m_get (v := .int (S 2)) (C := R_M) (T := T_M) (N := 28) hx hb hT in_M hown hC.1 hm 1000 rfl g_29 rfl 2 (by decide) (hT _ k_592) (fun _ h9 => h9) rfl d_M_tool_64 ?_
          refine lv_iload_n hx hb d_M_tool_67 rfl (lv_at hl 1 rfl) ?_
          refine m_iast hx hb hC.1 hm 1003 rfl 0 g_30 rfl (by rw [hS]; exact vp_in_nI (by omega) (by decide)) d_M_tool_68 (fun H locs hm => ?_)
          rw [show (S 2).toNatClampNeg = tc by rw [hS, nI_clamp (by omega)]] at hm
          obtain ⟨G_49, eG_49⟩ : ∃ z : mG, z = va_up G_28 1003 (some (.inl ((dA 0), 12, .inl (upd (A 3) tc p0)))) := ⟨_, rfl⟩
          have hm : mS D mCl (mA ad G s.heap.size) s.heap ad G_49 H locs := by rw [eG_49]; exact hm
          have g_50 := (congrFun eG_49 1000).trans ((va_up_ne _ _ (by decide)).trans g_29)
          have g_51 : G_49 1003 = some (.inl ((dA 0), 12, .inl (upd (A 3) tc p0))) := by rw [eG_49, va_up_self]
          have g_52 := (congrFun eG_49 1004).trans ((va_up_ne _ _ (by decide)).trans g_31)
          have g_53 := (congrFun eG_49 1005).trans ((va_up_ne _ _ (by decide)).trans g_32)
          have g_54 := (congrFun eG_49 1006).trans ((va_up_ne _ _ (by decide)).trans g_33)
          have g_55 := (congrFun eG_49 1007).trans ((va_up_ne _ _ (by decide)).trans g_34)
          have g_56 := (congrFun eG_49 1008).trans ((va_up_ne _ _ (by decide)).trans g_35)
          have g_57 := (congrFun eG_49 1009).trans ((va_up_ne _ _ (by decide)).trans g_36)
          have g_58 := (congrFun eG_49 1010).trans ((va_up_ne _ _ (by decide)).trans g_37)
          have g_59 := (congrFun eG_49 1011).trans ((va_up_ne _ _ (by decide)).trans g_38)
          have g_60 := (congrFun eG_49 1012).trans ((va_up_ne _ _ (by decide)).trans g_39)
          have g_61 := (congrFun eG_49 1013).trans ((va_up_ne _ _ (by decide)).trans g_40)
          have g_62 := (congrFun eG_49 1014).trans ((va_up_ne _ _ (by decide)).trans g_41)
          have g_63 := (congrFun eG_49 1015).trans ((va_up_ne _ _ (by decide)).trans g_42)
          have g_64 := (congrFun eG_49 1016).trans ((va_up_ne _ _ (by decide)).trans g_43)
          have g_65 := (congrFun eG_49 1021).trans ((va_up_ne _ _ (by decide)).trans g_44)
          have g_66 := (congrFun eG_49 1022).trans ((va_up_ne _ _ (by decide)).trans g_45)
          have g_67 := (congrFun eG_49 1023).trans ((va_up_ne _ _ (by decide)).trans g_46)
          have g_68 := (congrFun eG_49 1024).trans ((va_up_ne _ _ (by decide)).trans g_47)
          have g_69 := (congrFun eG_49 1025).trans ((va_up_ne _ _ (by decide)).trans g_48)
          have hG : G_49 = gM dA ad (va_up A 3 (upd (A 3) tc p0)) B (va_up S 0 0) sd G0 := by rw [eG_49, hG]; exact gM_u3 _
          refine lv_aload_n hx hb d_M_tool_69 rfl (lv_at hl 0 rfl) ?_
          refine m_get (v := .ref (ad 1004)) (C := R_M) (T := T_M) (N := 28) hx hb hT in_M hown hC.1 hm 1000 rfl g_50 rfl 4 (by decide) (hT _ k_594) (fun _ h9 => h9) rfl d_M_tool_70 ?_
          refine lv_aload_n hx hb d_M_tool_73 rfl (lv_at hl 0 rfl) ?_
          refine m_get (v := .int (S 2)) (C := R_M) (T := T_M) (N := 28) hx hb hT in_M hown hC.1 hm 1000 rfl g_50 rfl 2 (by decide) (hT _ k_592) (fun _ h9 => h9) rfl d_M_tool_74 ?_
          refine lv_iload_n hx hb d_M_tool_77 rfl (lv_at hl 2 rfl) ?_
          refine m_iast hx hb hC.1 hm 1004 rfl 0 g_52 rfl (by rw [hS]; exact vp_in_nI (by omega) (by decide)) d_M_tool_78 (fun H locs hm => ?_)
          rw [show (S 2).toNatClampNeg = tc by rw [hS, nI_clamp (by omega)]] at hm
          obtain ⟨G_70, eG_70⟩ : ∃ z : mG, z = va_up G_49 1004 (some (.inl ((dA 0), 12, .inl (upd (A 4) tc p1)))) := ⟨_, rfl⟩
          have hm : mS D mCl (mA ad G s.heap.size) s.heap ad G_70 H locs := by rw [eG_70]; exact hm
          have g_71 := (congrFun eG_70 1000).trans ((va_up_ne _ _ (by decide)).trans g_50)
          have g_72 := (congrFun eG_70 1003).trans ((va_up_ne _ _ (by decide)).trans g_51)
          have g_73 : G_70 1004 = some (.inl ((dA 0), 12, .inl (upd (A 4) tc p1))) := by rw [eG_70, va_up_self]
          have g_74 := (congrFun eG_70 1005).trans ((va_up_ne _ _ (by decide)).trans g_53)
          have g_75 := (congrFun eG_70 1006).trans ((va_up_ne _ _ (by decide)).trans g_54)
          have g_76 := (congrFun eG_70 1007).trans ((va_up_ne _ _ (by decide)).trans g_55)
          have g_77 := (congrFun eG_70 1008).trans ((va_up_ne _ _ (by decide)).trans g_56)
          have g_78 := (congrFun eG_70 1009).trans ((va_up_ne _ _ (by decide)).trans g_57)
          have g_79 := (congrFun eG_70 1010).trans ((va_up_ne _ _ (by decide)).trans g_58)
          have g_80 := (congrFun eG_70 1011).trans ((va_up_ne _ _ (by decide)).trans g_59)
          have g_81 := (congrFun eG_70 1012).trans ((va_up_ne _ _ (by decide)).trans g_60)
          have g_82 := (congrFun eG_70 1013).trans ((va_up_ne _ _ (by decide)).trans g_61)
          have g_83 := (congrFun eG_70 1014).trans ((va_up_ne _ _ (by decide)).trans g_62)
          have g_84 := (congrFun eG_70 1015).trans ((va_up_ne _ _ (by decide)).trans g_63)
          have g_85 := (congrFun eG_70 1016).trans ((va_up_ne _ _ (by decide)).trans g_64)
          have g_86 := (congrFun eG_70 1021).trans ((va_up_ne _ _ (by decide)).trans g_65)
          have g_87 := (congrFun eG_70 1022).trans ((va_up_ne _ _ (by decide)).trans g_66)
          have g_88 := (congrFun eG_70 1023).trans ((va_up_ne _ _ (by decide)).trans g_67)
          have g_89 := (congrFun eG_70 1024).trans ((va_up_ne _ _ (by decide)).trans g_68)
          have g_90 := (congrFun eG_70 1025).trans ((va_up_ne _ _ (by decide)).trans g_69)
          have hG : G_70 = gM dA ad (va_up (va_up A 3 (upd (A 3) tc p0)) 4 (upd (A 4) tc p1)) B (va_up S 0 0) sd G0 := by rw [eG_70, hG]; exact gM_u4 _
          refine lv_aload_n hx hb d_M_tool_79 rfl (lv_at hl 0 rfl) ?_
          refine m_get (v := .ref (ad 1005)) (C := R_M) (T := T_M) (N := 28) hx hb hT in_M hown hC.1 hm 1000 rfl g_71 rfl 5 (by decide) (hT _ k_595) (fun _ h9 => h9) rfl d_M_tool_80 ?_
          refine lv_aload_n hx hb d_M_tool_83 rfl (lv_at hl 0 rfl) ?_
          refine m_get (v := .int (S 2)) (C := R_M) (T := T_M) (N := 28) hx hb hT in_M hown hC.1 hm 1000 rfl g_71 rfl 2 (by decide) (hT _ k_592) (fun _ h9 => h9) rfl d_M_tool_84 ?_
          refine lv_iload_n hx hb d_M_tool_87 rfl (lv_at hl 3 rfl) ?_
          refine m_iast hx hb hC.1 hm 1005 rfl 0 g_74 rfl (by rw [hS]; exact vp_in_nI (by omega) (by decide)) d_M_tool_88 (fun H locs hm => ?_)
          rw [show (S 2).toNatClampNeg = tc by rw [hS, nI_clamp (by omega)]] at hm
          obtain ⟨G_91, eG_91⟩ : ∃ z : mG, z = va_up G_70 1005 (some (.inl ((dA 0), 12, .inl (upd (A 5) tc p2)))) := ⟨_, rfl⟩
          have hm : mS D mCl (mA ad G s.heap.size) s.heap ad G_91 H locs := by rw [eG_91]; exact hm
          have g_92 := (congrFun eG_91 1000).trans ((va_up_ne _ _ (by decide)).trans g_71)
          have g_93 := (congrFun eG_91 1003).trans ((va_up_ne _ _ (by decide)).trans g_72)
          have g_94 := (congrFun eG_91 1004).trans ((va_up_ne _ _ (by decide)).trans g_73)
          have g_95 : G_91 1005 = some (.inl ((dA 0), 12, .inl (upd (A 5) tc p2))) := by rw [eG_91, va_up_self]
          have g_96 := (congrFun eG_91 1006).trans ((va_up_ne _ _ (by decide)).trans g_75)
          have g_97 := (congrFun eG_91 1007).trans ((va_up_ne _ _ (by decide)).trans g_76)
          have g_98 := (congrFun eG_91 1008).trans ((va_up_ne _ _ (by decide)).trans g_77)
          have g_99 := (congrFun eG_91 1009).trans ((va_up_ne _ _ (by decide)).trans g_78)
          have g_100 := (congrFun eG_91 1010).trans ((va_up_ne _ _ (by decide)).trans g_79)
          have g_101 := (congrFun eG_91 1011).trans ((va_up_ne _ _ (by decide)).trans g_80)
          have g_102 := (congrFun eG_91 1012).trans ((va_up_ne _ _ (by decide)).trans g_81)
          have g_103 := (congrFun eG_91 1013).trans ((va_up_ne _ _ (by decide)).trans g_82)
          have g_104 := (congrFun eG_91 1014).trans ((va_up_ne _ _ (by decide)).trans g_83)
          have g_105 := (congrFun eG_91 1015).trans ((va_up_ne _ _ (by decide)).trans g_84)
          have g_106 := (congrFun eG_91 1016).trans ((va_up_ne _ _ (by decide)).trans g_85)
          have g_107 := (congrFun eG_91 1021).trans ((va_up_ne _ _ (by decide)).trans g_86)
          have g_108 := (congrFun eG_91 1022).trans ((va_up_ne _ _ (by decide)).trans g_87)
          have g_109 := (congrFun eG_91 1023).trans ((va_up_ne _ _ (by decide)).trans g_88)
          have g_110 := (congrFun eG_91 1024).trans ((va_up_ne _ _ (by decide)).trans g_89)
          have g_111 := (congrFun eG_91 1025).trans ((va_up_ne _ _ (by decide)).trans g_90)
          have hG : G_91 = gM dA ad (va_up (va_up (va_up A 3 (upd (A 3) tc p0)) 4 (upd (A 4) tc p1)) 5 (upd (A 5) tc p2)) B (va_up S 0 0) sd G0 := by rw [eG_91, hG]; exact gM_u5 _
          refine lv_aload_n hx hb d_M_tool_89 rfl (lv_at hl 0 rfl) ?_
          refine lv_dup hx hb d_M_tool_90 rfl ?_
          refine m_get (v := .int (S 2)) (C := R_M) (T := T_M) (N := 28) hx hb hT in_M hown hC.1 hm 1000 rfl g_92 rfl 2 (by decide) (hT _ k_592) (fun _ h9 => h9) rfl d_M_tool_91 ?_
          refine lv_iconst (v := 1) hx hb d_M_tool_94 (by decide) ?_
          refine lv_iadd hx hb d_M_tool_95 ?_
          refine lv_topi (fun x_112 ex_112 => ?_)
          refine m_put (v := .int x_112) (ty := .int) (C := R_M) (T := T_M) (N := 28) hx hb hT in_M t_M tok_M nm_M hown hC.1 hm 1000 rfl g_92 rfl 2 (by decide) (hT _ k_592) (fun _ h9 => h9) rfl (by decide +kernel) rfl rfl (Nat.le_of_ble_eq_true rfl) d_M_tool_96 (fun H locs hm => ?_)
          obtain ⟨G_113, eG_113⟩ : ∃ z : mG, z = va_up G_91 1000 (some (.inr (6, [.int 0, .long sd, .int x_112, .ref (ad 1003), .ref (ad 1004), .ref (ad 1005), .ref (ad 1006), .ref (ad 1007), .ref (ad 1008), .ref (ad 1009), .ref (ad 1010), .ref (ad 1011), .ref (ad 1012), .ref (ad 1013), .ref (ad 1014), .ref (ad 1015), .ref (ad 1016), .int (S 17), .int (S 18), .int (S 19), .int (S 20), .ref (ad 1021), .ref (ad 1022), .ref (ad 1023), .ref (ad 1024), .ref (ad 1025), .int (S 26), .int (S 27)]))) := ⟨_, rfl⟩
          have hm : mS D mCl (mA ad G s.heap.size) s.heap ad G_113 H locs := by rw [eG_113]; exact hm
          have g_114 : G_113 1000 = some (.inr (6, [.int 0, .long sd, .int x_112, .ref (ad 1003), .ref (ad 1004), .ref (ad 1005), .ref (ad 1006), .ref (ad 1007), .ref (ad 1008), .ref (ad 1009), .ref (ad 1010), .ref (ad 1011), .ref (ad 1012), .ref (ad 1013), .ref (ad 1014), .ref (ad 1015), .ref (ad 1016), .int (S 17), .int (S 18), .int (S 19), .int (S 20), .ref (ad 1021), .ref (ad 1022), .ref (ad 1023), .ref (ad 1024), .ref (ad 1025), .int (S 26), .int (S 27)])) := by rw [eG_113, va_up_self]
          have g_115 := (congrFun eG_113 1003).trans ((va_up_ne _ _ (by decide)).trans g_93)
          have g_116 := (congrFun eG_113 1004).trans ((va_up_ne _ _ (by decide)).trans g_94)
          have g_117 := (congrFun eG_113 1005).trans ((va_up_ne _ _ (by decide)).trans g_95)
          have g_118 := (congrFun eG_113 1006).trans ((va_up_ne _ _ (by decide)).trans g_96)
          have g_119 := (congrFun eG_113 1007).trans ((va_up_ne _ _ (by decide)).trans g_97)
          have g_120 := (congrFun eG_113 1008).trans ((va_up_ne _ _ (by decide)).trans g_98)
          have g_121 := (congrFun eG_113 1009).trans ((va_up_ne _ _ (by decide)).trans g_99)
          have g_122 := (congrFun eG_113 1010).trans ((va_up_ne _ _ (by decide)).trans g_100)
          have g_123 := (congrFun eG_113 1011).trans ((va_up_ne _ _ (by decide)).trans g_101)
          have g_124 := (congrFun eG_113 1012).trans ((va_up_ne _ _ (by decide)).trans g_102)
          have g_125 := (congrFun eG_113 1013).trans ((va_up_ne _ _ (by decide)).trans g_103)
          have g_126 := (congrFun eG_113 1014).trans ((va_up_ne _ _ (by decide)).trans g_104)
          have g_127 := (congrFun eG_113 1015).trans ((va_up_ne _ _ (by decide)).trans g_105)
          have g_128 := (congrFun eG_113 1016).trans ((va_up_ne _ _ (by decide)).trans g_106)
          have g_129 := (congrFun eG_113 1021).trans ((va_up_ne _ _ (by decide)).trans g_107)
          have g_130 := (congrFun eG_113 1022).trans ((va_up_ne _ _ (by decide)).trans g_108)
          have g_131 := (congrFun eG_113 1023).trans ((va_up_ne _ _ (by decide)).trans g_109)
          have g_132 := (congrFun eG_113 1024).trans ((va_up_ne _ _ (by decide)).trans g_110)
          have g_133 := (congrFun eG_113 1025).trans ((va_up_ne _ _ (by decide)).trans g_111)
          have hG : G_113 = gM dA ad (va_up (va_up (va_up A 3 (upd (A 3) tc p0)) 4 (upd (A 4) tc p1)) 5 (upd (A 5) tc p2)) B (va_up (va_up S 0 0) 2 x_112) sd G0 := by rw [eG_113, hG]; exact gM_uo (va_up (va_up S 0 0) 2 x_112)
          refine lv_aload_n hx hb d_M_tool_99 rfl (lv_at hl 0 rfl) ?_
          refine m_get (v := .int x_112) (C := R_M) (T := T_M) (N := 28) hx hb hT in_M hown hC.1 hm 1000 rfl g_114 rfl 2 (by decide) (hT _ k_592) (fun _ h9 => h9) rfl d_M_tool_100 ?_
          refine lv_iconst (v := 1) hx hb d_M_tool_103 (by decide) ?_
          refine lv_isub hx hb d_M_tool_104 ?_
          refine lv_topi (fun x_134 ex_134 => ?_)
          exact m_iret (v := x_134) hx hb hr hm (Or.inr (Or.inr (Or.inr (⟨bv_ne w_2 c_5, fun h => h.elim (fun h => Int32.not_lt.mpr c_26 h) ((inJ (p := p2) (lo := 0) (hi := p1) (a := 0) (b := p1.toInt64) (by decide) rfl).mp (by have h9 := bv_ne w_6 c_20; rw [ex_3, ex_4] at h9; exact h9)), ht12, by
            rw [ex_134, ex_112, hS, nI_1]
            exact nI_pred tc, by rw [hG, ex_112, hS, nI_1]⟩)))) d_M_tool_105 hlocks
        · refine lv_iconst (v := 3) hx hb d_M_tool_42 (by decide) ?_
          refine lv_goto (tgt := 47) hx hb d_M_tool_43 (by decide) ?_
          refine m_put (v := .int 3) (ty := .int) (C := R_M) (T := T_M) (N := 28) hx hb hT in_M t_M tok_M nm_M hown hC.1 hm 1000 rfl ((congrFun hG 1000).trans gM_o) rfl 0 (by decide) (hT _ k_590) (fun _ h9 => h9) rfl (by decide +kernel) rfl rfl (Nat.le_of_ble_eq_true rfl) d_M_tool_47 (fun H locs hm => ?_)
          obtain ⟨G_135, eG_135⟩ : ∃ z : mG, z = va_up G 1000 (some (.inr (6, [.int 3, .long sd, .int (S 2), .ref (ad 1003), .ref (ad 1004), .ref (ad 1005), .ref (ad 1006), .ref (ad 1007), .ref (ad 1008), .ref (ad 1009), .ref (ad 1010), .ref (ad 1011), .ref (ad 1012), .ref (ad 1013), .ref (ad 1014), .ref (ad 1015), .ref (ad 1016), .int (S 17), .int (S 18), .int (S 19), .int (S 20), .ref (ad 1021), .ref (ad 1022), .ref (ad 1023), .ref (ad 1024), .ref (ad 1025), .int (S 26), .int (S 27)]))) := ⟨_, rfl⟩
          have hm : mS D mCl (mA ad G s.heap.size) s.heap ad G_135 H locs := by rw [eG_135]; exact hm
          have g_136 : G_135 1000 = some (.inr (6, [.int 3, .long sd, .int (S 2), .ref (ad 1003), .ref (ad 1004), .ref (ad 1005), .ref (ad 1006), .ref (ad 1007), .ref (ad 1008), .ref (ad 1009), .ref (ad 1010), .ref (ad 1011), .ref (ad 1012), .ref (ad 1013), .ref (ad 1014), .ref (ad 1015), .ref (ad 1016), .int (S 17), .int (S 18), .int (S 19), .int (S 20), .ref (ad 1021), .ref (ad 1022), .ref (ad 1023), .ref (ad 1024), .ref (ad 1025), .int (S 26), .int (S 27)])) := by rw [eG_135, va_up_self]
          have g_137 := (congrFun eG_135 1003).trans ((va_up_ne _ _ (by decide)).trans ((congrFun hG 1003).trans gM_3))
          have g_138 := (congrFun eG_135 1004).trans ((va_up_ne _ _ (by decide)).trans ((congrFun hG 1004).trans gM_4))
          have g_139 := (congrFun eG_135 1005).trans ((va_up_ne _ _ (by decide)).trans ((congrFun hG 1005).trans gM_5))
          have g_140 := (congrFun eG_135 1006).trans ((va_up_ne _ _ (by decide)).trans ((congrFun hG 1006).trans gM_6))
          have g_141 := (congrFun eG_135 1007).trans ((va_up_ne _ _ (by decide)).trans ((congrFun hG 1007).trans gM_7))
          have g_142 := (congrFun eG_135 1008).trans ((va_up_ne _ _ (by decide)).trans ((congrFun hG 1008).trans gM_8))
          have g_143 := (congrFun eG_135 1009).trans ((va_up_ne _ _ (by decide)).trans ((congrFun hG 1009).trans gM_9))
          have g_144 := (congrFun eG_135 1010).trans ((va_up_ne _ _ (by decide)).trans ((congrFun hG 1010).trans gM_10))
          have g_145 := (congrFun eG_135 1011).trans ((va_up_ne _ _ (by decide)).trans ((congrFun hG 1011).trans gM_11))
          have g_146 := (congrFun eG_135 1012).trans ((va_up_ne _ _ (by decide)).trans ((congrFun hG 1012).trans gM_12))
          have g_147 := (congrFun eG_135 1013).trans ((va_up_ne _ _ (by decide)).trans ((congrFun hG 1013).trans gM_13))
          have g_148 := (congrFun eG_135 1014).trans ((va_up_ne _ _ (by decide)).trans ((congrFun hG 1014).trans gM_14))
          have g_149 := (congrFun eG_135 1015).trans ((va_up_ne _ _ (by decide)).trans ((congrFun hG 1015).trans gM_15))
          have g_150 := (congrFun eG_135 1016).trans ((va_up_ne _ _ (by decide)).trans ((congrFun hG 1016).trans gM_16))
          have g_151 := (congrFun eG_135 1021).trans ((va_up_ne _ _ (by decide)).trans ((congrFun hG 1021).trans gM_21))
          have g_152 := (congrFun eG_135 1022).trans ((va_up_ne _ _ (by decide)).trans ((congrFun hG 1022).trans gM_22))
          have g_153 := (congrFun eG_135 1023).trans ((va_up_ne _ _ (by decide)).trans ((congrFun hG 1023).trans gM_23))
          have g_154 := (congrFun eG_135 1024).trans ((va_up_ne _ _ (by decide)).trans ((congrFun hG 1024).trans gM_24))
          have g_155 := (congrFun eG_135 1025).trans ((va_up_ne _ _ (by decide)).trans ((congrFun hG 1025).trans gM_25))
          have hG : G_135 = gM dA ad A B (va_up S 0 3) sd G0 := by rw [eG_135, hG]; exact gM_uo (va_up S 0 3)
          refine lv_aload_n hx hb d_M_tool_50 rfl (lv_at hl 0 rfl) ?_
          refine m_get (v := .int 3) (C := R_M) (T := T_M) (N := 28) hx hb hT in_M hown hC.1 hm 1000 rfl g_136 rfl 0 (by decide) (hT _ k_590) (fun _ h9 => h9) rfl d_M_tool_51 ?_
          refine lv_if_le (tgt := 59) hx hb d_M_tool_54 (by decide) (fun c9 => absurd c9 (by decide)) (fun _ => ?_)
          refine lv_iconst (v := 0) hx hb d_M_tool_57 (by decide) ?_
          exact m_iret (v := 0) hx hb hr hm (Or.inr (Or.inr (Or.inl ⟨bv_ne w_2 c_5, fun h => h.elim (fun h => Int32.not_lt.mpr c_26 h) ((inJ (p := p2) (lo := 0) (hi := p1) (a := 0) (b := p1.toInt64) (by decide) rfl).mp (by have h9 := bv_ne w_6 c_20; rw [ex_3, ex_4] at h9; exact h9)), by
            rw [hS] at c_39
            exact (nI_eq (b := 12) (by omega) (by decide)).mp c_39, by rw [hG]⟩))) d_M_tool_58 hlocks
      · refine lv_iconst (v := 2) hx hb d_M_tool_29 (by decide) ?_
        refine lv_goto (tgt := 47) hx hb d_M_tool_30 (by decide) ?_
        refine m_put (v := .int 2) (ty := .int) (C := R_M) (T := T_M) (N := 28) hx hb hT in_M t_M tok_M nm_M hown hC.1 hm 1000 rfl ((congrFun hG 1000).trans gM_o) rfl 0 (by decide) (hT _ k_590) (fun _ h9 => h9) rfl (by decide +kernel) rfl rfl (Nat.le_of_ble_eq_true rfl) d_M_tool_47 (fun H locs hm => ?_)
        obtain ⟨G_156, eG_156⟩ : ∃ z : mG, z = va_up G 1000 (some (.inr (6, [.int 2, .long sd, .int (S 2), .ref (ad 1003), .ref (ad 1004), .ref (ad 1005), .ref (ad 1006), .ref (ad 1007), .ref (ad 1008), .ref (ad 1009), .ref (ad 1010), .ref (ad 1011), .ref (ad 1012), .ref (ad 1013), .ref (ad 1014), .ref (ad 1015), .ref (ad 1016), .int (S 17), .int (S 18), .int (S 19), .int (S 20), .ref (ad 1021), .ref (ad 1022), .ref (ad 1023), .ref (ad 1024), .ref (ad 1025), .int (S 26), .int (S 27)]))) := ⟨_, rfl⟩
        have hm : mS D mCl (mA ad G s.heap.size) s.heap ad G_156 H locs := by rw [eG_156]; exact hm
        have g_157 : G_156 1000 = some (.inr (6, [.int 2, .long sd, .int (S 2), .ref (ad 1003), .ref (ad 1004), .ref (ad 1005), .ref (ad 1006), .ref (ad 1007), .ref (ad 1008), .ref (ad 1009), .ref (ad 1010), .ref (ad 1011), .ref (ad 1012), .ref (ad 1013), .ref (ad 1014), .ref (ad 1015), .ref (ad 1016), .int (S 17), .int (S 18), .int (S 19), .int (S 20), .ref (ad 1021), .ref (ad 1022), .ref (ad 1023), .ref (ad 1024), .ref (ad 1025), .int (S 26), .int (S 27)])) := by rw [eG_156, va_up_self]
        have g_158 := (congrFun eG_156 1003).trans ((va_up_ne _ _ (by decide)).trans ((congrFun hG 1003).trans gM_3))
        have g_159 := (congrFun eG_156 1004).trans ((va_up_ne _ _ (by decide)).trans ((congrFun hG 1004).trans gM_4))
        have g_160 := (congrFun eG_156 1005).trans ((va_up_ne _ _ (by decide)).trans ((congrFun hG 1005).trans gM_5))
        have g_161 := (congrFun eG_156 1006).trans ((va_up_ne _ _ (by decide)).trans ((congrFun hG 1006).trans gM_6))
        have g_162 := (congrFun eG_156 1007).trans ((va_up_ne _ _ (by decide)).trans ((congrFun hG 1007).trans gM_7))
        have g_163 := (congrFun eG_156 1008).trans ((va_up_ne _ _ (by decide)).trans ((congrFun hG 1008).trans gM_8))
        have g_164 := (congrFun eG_156 1009).trans ((va_up_ne _ _ (by decide)).trans ((congrFun hG 1009).trans gM_9))
        have g_165 := (congrFun eG_156 1010).trans ((va_up_ne _ _ (by decide)).trans ((congrFun hG 1010).trans gM_10))
        have g_166 := (congrFun eG_156 1011).trans ((va_up_ne _ _ (by decide)).trans ((congrFun hG 1011).trans gM_11))
        have g_167 := (congrFun eG_156 1012).trans ((va_up_ne _ _ (by decide)).trans ((congrFun hG 1012).trans gM_12))
        have g_168 := (congrFun eG_156 1013).trans ((va_up_ne _ _ (by decide)).trans ((congrFun hG 1013).trans gM_13))
        have g_169 := (congrFun eG_156 1014).trans ((va_up_ne _ _ (by decide)).trans ((congrFun hG 1014).trans gM_14))
        have g_170 := (congrFun eG_156 1015).trans ((va_up_ne _ _ (by decide)).trans ((congrFun hG 1015).trans gM_15))
        have g_171 := (congrFun eG_156 1016).trans ((va_up_ne _ _ (by decide)).trans ((congrFun hG 1016).trans gM_16))
        have g_172 := (congrFun eG_156 1021).trans ((va_up_ne _ _ (by decide)).trans ((congrFun hG 1021).trans gM_21))
        have g_173 := (congrFun eG_156 1022).trans ((va_up_ne _ _ (by decide)).trans ((congrFun hG 1022).trans gM_22))
        have g_174 := (congrFun eG_156 1023).trans ((va_up_ne _ _ (by decide)).trans ((congrFun hG 1023).trans gM_23))
        have g_175 := (congrFun eG_156 1024).trans ((va_up_ne _ _ (by decide)).trans ((congrFun hG 1024).trans gM_24))
        have g_176 := (congrFun eG_156 1025).trans ((va_up_ne _ _ (by decide)).trans ((congrFun hG 1025).trans gM_25))
        have hG : G_156 = gM dA ad A B (va_up S 0 2) sd G0 := by rw [eG_156, hG]; exact gM_uo (va_up S 0 2)
        refine lv_aload_n hx hb d_M_tool_50 rfl (lv_at hl 0 rfl) ?_
        refine m_get (v := .int 2) (C := R_M) (T := T_M) (N := 28) hx hb hT in_M hown hC.1 hm 1000 rfl g_157 rfl 0 (by decide) (hT _ k_590) (fun _ h9 => h9) rfl d_M_tool_51 ?_
        refine lv_if_le (tgt := 59) hx hb d_M_tool_54 (by decide) (fun c9 => absurd c9 (by decide)) (fun _ => ?_)
        refine lv_iconst (v := 0) hx hb d_M_tool_57 (by decide) ?_
        exact m_iret (v := 0) hx hb hr hm (Or.inr (Or.inl ⟨bv_ne w_2 c_5, Or.inl (Int32.not_le.mp c_26), by rw [hG]⟩)) d_M_tool_58 hlocks
  · refine lv_iconst (v := 1) hx hb d_M_tool_8 (by decide) ?_
    refine lv_goto (tgt := 47) hx hb d_M_tool_9 (by decide) ?_
    refine m_put (v := .int 1) (ty := .int) (C := R_M) (T := T_M) (N := 28) hx hb hT in_M t_M tok_M nm_M hown hC.1 hm 1000 rfl ((congrFun hG 1000).trans gM_o) rfl 0 (by decide) (hT _ k_590) (fun _ h9 => h9) rfl (by decide +kernel) rfl rfl (Nat.le_of_ble_eq_true rfl) d_M_tool_47 (fun H locs hm => ?_)
    obtain ⟨G_177, eG_177⟩ : ∃ z : mG, z = va_up G 1000 (some (.inr (6, [.int 1, .long sd, .int (S 2), .ref (ad 1003), .ref (ad 1004), .ref (ad 1005), .ref (ad 1006), .ref (ad 1007), .ref (ad 1008), .ref (ad 1009), .ref (ad 1010), .ref (ad 1011), .ref (ad 1012), .ref (ad 1013), .ref (ad 1014), .ref (ad 1015), .ref (ad 1016), .int (S 17), .int (S 18), .int (S 19), .int (S 20), .ref (ad 1021), .ref (ad 1022), .ref (ad 1023), .ref (ad 1024), .ref (ad 1025), .int (S 26), .int (S 27)]))) := ⟨_, rfl⟩
    have hm : mS D mCl (mA ad G s.heap.size) s.heap ad G_177 H locs := by rw [eG_177]; exact hm
    have g_178 : G_177 1000 = some (.inr (6, [.int 1, .long sd, .int (S 2), .ref (ad 1003), .ref (ad 1004), .ref (ad 1005), .ref (ad 1006), .ref (ad 1007), .ref (ad 1008), .ref (ad 1009), .ref (ad 1010), .ref (ad 1011), .ref (ad 1012), .ref (ad 1013), .ref (ad 1014), .ref (ad 1015), .ref (ad 1016), .int (S 17), .int (S 18), .int (S 19), .int (S 20), .ref (ad 1021), .ref (ad 1022), .ref (ad 1023), .ref (ad 1024), .ref (ad 1025), .int (S 26), .int (S 27)])) := by rw [eG_177, va_up_self]
    have g_179 := (congrFun eG_177 1003).trans ((va_up_ne _ _ (by decide)).trans ((congrFun hG 1003).trans gM_3))
    have g_180 := (congrFun eG_177 1004).trans ((va_up_ne _ _ (by decide)).trans ((congrFun hG 1004).trans gM_4))
    have g_181 := (congrFun eG_177 1005).trans ((va_up_ne _ _ (by decide)).trans ((congrFun hG 1005).trans gM_5))
    have g_182 := (congrFun eG_177 1006).trans ((va_up_ne _ _ (by decide)).trans ((congrFun hG 1006).trans gM_6))
    have g_183 := (congrFun eG_177 1007).trans ((va_up_ne _ _ (by decide)).trans ((congrFun hG 1007).trans gM_7))
    have g_184 := (congrFun eG_177 1008).trans ((va_up_ne _ _ (by decide)).trans ((congrFun hG 1008).trans gM_8))
    have g_185 := (congrFun eG_177 1009).trans ((va_up_ne _ _ (by decide)).trans ((congrFun hG 1009).trans gM_9))
    have g_186 := (congrFun eG_177 1010).trans ((va_up_ne _ _ (by decide)).trans ((congrFun hG 1010).trans gM_10))
    have g_187 := (congrFun eG_177 1011).trans ((va_up_ne _ _ (by decide)).trans ((congrFun hG 1011).trans gM_11))
    have g_188 := (congrFun eG_177 1012).trans ((va_up_ne _ _ (by decide)).trans ((congrFun hG 1012).trans gM_12))
    have g_189 := (congrFun eG_177 1013).trans ((va_up_ne _ _ (by decide)).trans ((congrFun hG 1013).trans gM_13))
    have g_190 := (congrFun eG_177 1014).trans ((va_up_ne _ _ (by decide)).trans ((congrFun hG 1014).trans gM_14))
    have g_191 := (congrFun eG_177 1015).trans ((va_up_ne _ _ (by decide)).trans ((congrFun hG 1015).trans gM_15))
    have g_192 := (congrFun eG_177 1016).trans ((va_up_ne _ _ (by decide)).trans ((congrFun hG 1016).trans gM_16))
    have g_193 := (congrFun eG_177 1021).trans ((va_up_ne _ _ (by decide)).trans ((congrFun hG 1021).trans gM_21))
    have g_194 := (congrFun eG_177 1022).trans ((va_up_ne _ _ (by decide)).trans ((congrFun hG 1022).trans gM_22))
    have g_195 := (congrFun eG_177 1023).trans ((va_up_ne _ _ (by decide)).trans ((congrFun hG 1023).trans gM_23))
    have g_196 := (congrFun eG_177 1024).trans ((va_up_ne _ _ (by decide)).trans ((congrFun hG 1024).trans gM_24))
    have g_197 := (congrFun eG_177 1025).trans ((va_up_ne _ _ (by decide)).trans ((congrFun hG 1025).trans gM_25))
    have hG : G_177 = gM dA ad A B (va_up S 0 1) sd G0 := by rw [eG_177, hG]; exact gM_uo (va_up S 0 1)
    refine lv_aload_n hx hb d_M_tool_50 rfl (lv_at hl 0 rfl) ?_
    refine m_get (v := .int 1) (C := R_M) (T := T_M) (N := 28) hx hb hT in_M hown hC.1 hm 1000 rfl g_178 rfl 0 (by decide) (hT _ k_590) (fun _ h9 => h9) rfl d_M_tool_51 ?_
    refine lv_if_le (tgt := 59) hx hb d_M_tool_54 (by decide) (fun c9 => absurd c9 (by decide)) (fun _ => ?_)
    refine lv_iconst (v := 0) hx hb d_M_tool_57 (by decide) ?_
    exact m_iret (v := 0) hx hb hr hm (Or.inl ⟨bv_eq w_2 c_5, by rw [hG]⟩) d_M_tool_58 hlocks

set_option maxHeartbeats 4000000 in
set_option maxRecDepth 100000 in
theorem c_M_rate (l : Launch) (D : va_G) (dA : Nat → ClassId) (ad : Nat → Nat) (G : mG) (sz : Nat) (A : Nat → Nat → Int32) (B : Nat → Nat → Int64) (S : Nat → Int32) (sd : Int64) (G0 : mG) (hG : G = gM dA ad A B S sd G0) (p0 p1 p2 : Int32) : Met l y_M_rate (.code y_M_rate b_M_rate 4 none :: mBig) ({ frames := 1, cells := 0, slots := 0, locals := 25 }) (mPc [.ref (ad 1000), .int p0, .int p1, .int p2] D mCl (mTys dA) mTx ad G sz) (mQv (fun (u : mU) => ((¬ ((∃ a, a < 4 ∧ p0 = nI a) ∧ ∃ b, b < 4 ∧ p1 = nI b) ∧ u = (ad, gM dA ad A B (va_up S 0 1) sd G0)) ∨ (((∃ a, a < 4 ∧ p0 = nI a) ∧ ∃ b, b < 4 ∧ p1 = nI b) ∧ (p2 < 0 ∨ 1000000 < p2) ∧ u = (ad, gM dA ad A B (va_up S 0 2) sd G0)) ∨ (∃ a b, a < 4 ∧ b < 4 ∧ p0 = nI a ∧ p1 = nI b ∧ ¬ (p2 < 0 ∨ 1000000 < p2) ∧ u = (ad, gM dA ad A (va_up B 11 (vp_updL (B 11) (4 * a + b) p2.toInt64)) (va_up S 0 0) sd G0)))) D mCl ad G sz) 0 0 (mA ad G sz) := by
  refine Met.ofW (cc := b_M_rate) (maxL := 4) (ret := none) (by decide) rfl ?_
  intro p e s m args below meth c s₁ BB hml hv
  obtain ⟨rfl, hsz, hw0, hC⟩ := hv
  have hx := BB.exec
  have hb := BB.bytes
  have hr := BB.returns
  have hts := atoms_spec (ws := .code y_M_rate b_M_rate 4 none :: mBig) BB.pre
  have hT : ∀ w ∈ mBig, w.before _ s = true := fun w h => hts w (List.mem_cons_of_mem _ h)
  have hown : s.vm.findClass "EdgeWearModel" = some m.cls := findClass_of_methodNamed BB.named
  have hlocks := BB.notSynchronized
  subst hsz
  have hm := mS.start hw0
  have hA : ∀ q : Nat, s.heap.size ≤ q → mA ad G s.heap.size q := fun q h => Or.inr h
  have hl := lv_entry ([.ref (ad 1000), .int p0, .int p1, .int p2]) (n := 4) (Nat.le_of_ble_eq_true rfl)
  rw [lg_entry_eq]
  generalize (lg_sl ([.ref (ad 1000), .int p0, .int p1, .int p2]) ++ List.replicate (4 - (lg_sl ([.ref (ad 1000), .int p0, .int p1, .int p2])).length) Slot.unset).toArray = ls at hl ⊢
  have hl : lv_has ls 4 [(0, .ref (ad 1000)), (1, .int p0), (2, .int p1), (3, .int p2)] := hl
  refine lv_aload_n hx hb d_M_rate_0 rfl (lv_at hl 0 rfl) ?_
  refine lv_iload_n hx hb d_M_rate_1 rfl (lv_at hl 1 rfl) ?_
  refine m_roi (m_runS (As := [.int p0]) (rest := [.ref (ad 1000)]) ⟨hx, hb, hml, hown, hts⟩ (c_M_isFour l D dA ad G s.heap.size p0) (va_cwS 1 hts (gS k_687 k_685 k_686 k_4) rfl rfl rfl (by decide +kernel) ⟨Nat.le_of_ble_eq_true rfl, Nat.le_of_ble_eq_true rfl⟩) hm hA hC rfl hl.1 rfl (Nat.le_of_ble_eq_true rfl) d_M_rate_2 ⟨Nat.le_of_ble_eq_true rfl, Nat.le_of_ble_eq_true rfl⟩) hm hA (fun r_1 H locs w_2 hm => ?_)
  refine lv_if_eq (tgt := 15) hx hb d_M_rate_5 (by decide) (fun c_5 => ?_) (fun c_5 => ?_)
  · refine lv_iconst (v := 1) hx hb d_M_rate_15 (by decide) ?_
    refine lv_goto (tgt := 36) hx hb d_M_rate_16 (by decide) ?_
    refine m_put (v := .int 1) (ty := .int) (C := R_M) (T := T_M) (N := 28) hx hb hT in_M t_M tok_M nm_M hown hC.1 hm 1000 rfl ((congrFun hG 1000).trans gM_o) rfl 0 (by decide) (hT _ k_590) (fun _ h9 => h9) rfl (by decide +kernel) rfl rfl (Nat.le_of_ble_eq_true rfl) d_M_rate_36 (fun H locs hm => ?_)
    obtain ⟨G_3, eG_3⟩ : ∃ z : mG, z = va_up G 1000 (some (.inr (6, [.int 1, .long sd, .int (S 2), .ref (ad 1003), .ref (ad 1004), .ref (ad 1005), .ref (ad 1006), .ref (ad 1007), .ref (ad 1008), .ref (ad 1009), .ref (ad 1010), .ref (ad 1011), .ref (ad 1012), .ref (ad 1013), .ref (ad 1014), .ref (ad 1015), .ref (ad 1016), .int (S 17), .int (S 18), .int (S 19), .int (S 20), .ref (ad 1021), .ref (ad 1022), .ref (ad 1023), .ref (ad 1024), .ref (ad 1025), .int (S 26), .int (S 27)]))) := ⟨_, rfl⟩
    have hm : mS D mCl (mA ad G s.heap.size) s.heap ad G_3 H locs := by rw [eG_3]; exact hm
    have g_4 : G_3 1000 = some (.inr (6, [.int 1, .long sd, .int (S 2), .ref (ad 1003), .ref (ad 1004), .ref (ad 1005), .ref (ad 1006), .ref (ad 1007), .ref (ad 1008), .ref (ad 1009), .ref (ad 1010), .ref (ad 1011), .ref (ad 1012), .ref (ad 1013), .ref (ad 1014), .ref (ad 1015), .ref (ad 1016), .int (S 17), .int (S 18), .int (S 19), .int (S 20), .ref (ad 1021), .ref (ad 1022), .ref (ad 1023), .ref (ad 1024), .ref (ad 1025), .int (S 26), .int (S 27)])) := by rw [eG_3, va_up_self]
    have g_5 := (congrFun eG_3 1003).trans ((va_up_ne _ _ (by decide)).trans ((congrFun hG 1003).trans gM_3))
    have g_6 := (congrFun eG_3 1004).trans ((va_up_ne _ _ (by decide)).trans ((congrFun hG 1004).trans gM_4))
    have g_7 := (congrFun eG_3 1005).trans ((va_up_ne _ _ (by decide)).trans ((congrFun hG 1005).trans gM_5))
    have g_8 := (congrFun eG_3 1006).trans ((va_up_ne _ _ (by decide)).trans ((congrFun hG 1006).trans gM_6))
    have g_9 := (congrFun eG_3 1007).trans ((va_up_ne _ _ (by decide)).trans ((congrFun hG 1007).trans gM_7))
    have g_10 := (congrFun eG_3 1008).trans ((va_up_ne _ _ (by decide)).trans ((congrFun hG 1008).trans gM_8))
    have g_11 := (congrFun eG_3 1009).trans ((va_up_ne _ _ (by decide)).trans ((congrFun hG 1009).trans gM_9))
    have g_12 := (congrFun eG_3 1010).trans ((va_up_ne _ _ (by decide)).trans ((congrFun hG 1010).trans gM_10))
    have g_13 := (congrFun eG_3 1011).trans ((va_up_ne _ _ (by decide)).trans ((congrFun hG 1011).trans gM_11))
    have g_14 := (congrFun eG_3 1012).trans ((va_up_ne _ _ (by decide)).trans ((congrFun hG 1012).trans gM_12))
    have g_15 := (congrFun eG_3 1013).trans ((va_up_ne _ _ (by decide)).trans ((congrFun hG 1013).trans gM_13))
    have g_16 := (congrFun eG_3 1014).trans ((va_up_ne _ _ (by decide)).trans ((congrFun hG 1014).trans gM_14))
    have g_17 := (congrFun eG_3 1015).trans ((va_up_ne _ _ (by decide)).trans ((congrFun hG 1015).trans gM_15))
    have g_18 := (congrFun eG_3 1016).trans ((va_up_ne _ _ (by decide)).trans ((congrFun hG 1016).trans gM_16))
    have g_19 := (congrFun eG_3 1021).trans ((va_up_ne _ _ (by decide)).trans ((congrFun hG 1021).trans gM_21))
    have g_20 := (congrFun eG_3 1022).trans ((va_up_ne _ _ (by decide)).trans ((congrFun hG 1022).trans gM_22))
    have g_21 := (congrFun eG_3 1023).trans ((va_up_ne _ _ (by decide)).trans ((congrFun hG 1023).trans gM_23))
    have g_22 := (congrFun eG_3 1024).trans ((va_up_ne _ _ (by decide)).trans ((congrFun hG 1024).trans gM_24))
    have g_23 := (congrFun eG_3 1025).trans ((va_up_ne _ _ (by decide)).trans ((congrFun hG 1025).trans gM_25))
    have hG : G_3 = gM dA ad A B (va_up S 0 1) sd G0 := by rw [eG_3, hG]; exact gM_uo (va_up S 0 1)
    refine lv_aload_n hx hb d_M_rate_39 rfl (lv_at hl 0 rfl) ?_
    refine m_get (v := .int 1) (C := R_M) (T := T_M) (N := 28) hx hb hT in_M hown hC.1 hm 1000 rfl g_4 rfl 0 (by decide) (hT _ k_590) (fun _ h9 => h9) rfl d_M_rate_40 ?_
    refine lv_if_ne (tgt := 58) hx hb d_M_rate_43 (by decide) (fun _ => ?_) (fun c9 => absurd c9 (by decide))
    exact m_vret hx hb hr hm (Or.inl ⟨fun h => bv_eq w_2 c_5 h.1, by rw [hG]⟩) d_M_rate_58 hlocks
  · refine lv_iload_n hx hb d_M_rate_8 rfl (lv_at hl 2 rfl) ?_
    refine m_roi (m_runS (As := [.int p1]) (rest := [.ref (ad 1000)]) ⟨hx, hb, hml, hown, hts⟩ (c_M_isFour l D dA ad G H.size p1) (va_cwS 1 hts (gS k_687 k_685 k_686 k_4) rfl rfl rfl (by decide +kernel) ⟨Nat.le_of_ble_eq_true rfl, Nat.le_of_ble_eq_true rfl⟩) hm hA hC rfl hl.1 rfl (Nat.le_of_ble_eq_true rfl) d_M_rate_9 ⟨Nat.le_of_ble_eq_true rfl, Nat.le_of_ble_eq_true rfl⟩) hm hA (fun r_24 H locs w_25 hm => ?_)
    refine lv_if_ne (tgt := 19) hx hb d_M_rate_12 (by decide) (fun c_12 => ?_) (fun c_12 => ?_)
    · refine lv_iload_n hx hb d_M_rate_19 rfl (lv_at hl 3 rfl) ?_
      refine lv_i2l hx hb d_M_rate_20 rfl ?_
      refine lv_topl (fun x_26 ex_26 => ?_)
      refine lv_lconst (v := 0) hx hb d_M_rate_21 (by decide) ?_
      refine lv_ldc2 (v := 1000000) hx hb hown (hT _ k_589) d_M_rate_22 ?_
      refine m_roi (m_runS (As := [.long x_26, .long 0, .long 1000000]) (rest := [.ref (ad 1000)]) ⟨hx, hb, hml, hown, hts⟩ (c_M_isIn l D dA ad G H.size x_26 0 1000000) (va_cwS 3 hts (gS k_690 k_688 k_689 k_4) rfl rfl rfl (by decide +kernel) ⟨Nat.le_of_ble_eq_true rfl, Nat.le_of_ble_eq_true rfl⟩) hm hA hC rfl hl.1 rfl (Nat.le_of_ble_eq_true rfl) d_M_rate_25 ⟨Nat.le_of_ble_eq_true rfl, Nat.le_of_ble_eq_true rfl⟩) hm hA (fun r_27 H locs w_28 hm => ?_)
      refine lv_if_eq (tgt := 35) hx hb d_M_rate_28 (by decide) (fun c_28 => ?_) (fun c_28 => ?_)
      · refine lv_iconst (v := 2) hx hb d_M_rate_35 (by decide) ?_
        refine m_put (v := .int 2) (ty := .int) (C := R_M) (T := T_M) (N := 28) hx hb hT in_M t_M tok_M nm_M hown hC.1 hm 1000 rfl ((congrFun hG 1000).trans gM_o) rfl 0 (by decide) (hT _ k_590) (fun _ h9 => h9) rfl (by decide +kernel) rfl rfl (Nat.le_of_ble_eq_true rfl) d_M_rate_36 (fun H locs hm => ?_)
        obtain ⟨G_29, eG_29⟩ : ∃ z : mG, z = va_up G 1000 (some (.inr (6, [.int 2, .long sd, .int (S 2), .ref (ad 1003), .ref (ad 1004), .ref (ad 1005), .ref (ad 1006), .ref (ad 1007), .ref (ad 1008), .ref (ad 1009), .ref (ad 1010), .ref (ad 1011), .ref (ad 1012), .ref (ad 1013), .ref (ad 1014), .ref (ad 1015), .ref (ad 1016), .int (S 17), .int (S 18), .int (S 19), .int (S 20), .ref (ad 1021), .ref (ad 1022), .ref (ad 1023), .ref (ad 1024), .ref (ad 1025), .int (S 26), .int (S 27)]))) := ⟨_, rfl⟩
        have hm : mS D mCl (mA ad G s.heap.size) s.heap ad G_29 H locs := by rw [eG_29]; exact hm
        have g_30 : G_29 1000 = some (.inr (6, [.int 2, .long sd, .int (S 2), .ref (ad 1003), .ref (ad 1004), .ref (ad 1005), .ref (ad 1006), .ref (ad 1007), .ref (ad 1008), .ref (ad 1009), .ref (ad 1010), .ref (ad 1011), .ref (ad 1012), .ref (ad 1013), .ref (ad 1014), .ref (ad 1015), .ref (ad 1016), .int (S 17), .int (S 18), .int (S 19), .int (S 20), .ref (ad 1021), .ref (ad 1022), .ref (ad 1023), .ref (ad 1024), .ref (ad 1025), .int (S 26), .int (S 27)])) := by rw [eG_29, va_up_self]
        have g_31 := (congrFun eG_29 1003).trans ((va_up_ne _ _ (by decide)).trans ((congrFun hG 1003).trans gM_3))
        have g_32 := (congrFun eG_29 1004).trans ((va_up_ne _ _ (by decide)).trans ((congrFun hG 1004).trans gM_4))
        have g_33 := (congrFun eG_29 1005).trans ((va_up_ne _ _ (by decide)).trans ((congrFun hG 1005).trans gM_5))
        have g_34 := (congrFun eG_29 1006).trans ((va_up_ne _ _ (by decide)).trans ((congrFun hG 1006).trans gM_6))
        have g_35 := (congrFun eG_29 1007).trans ((va_up_ne _ _ (by decide)).trans ((congrFun hG 1007).trans gM_7))
        have g_36 := (congrFun eG_29 1008).trans ((va_up_ne _ _ (by decide)).trans ((congrFun hG 1008).trans gM_8))
        have g_37 := (congrFun eG_29 1009).trans ((va_up_ne _ _ (by decide)).trans ((congrFun hG 1009).trans gM_9))
        have g_38 := (congrFun eG_29 1010).trans ((va_up_ne _ _ (by decide)).trans ((congrFun hG 1010).trans gM_10))
        have g_39 := (congrFun eG_29 1011).trans ((va_up_ne _ _ (by decide)).trans ((congrFun hG 1011).trans gM_11))
        have g_40 := (congrFun eG_29 1012).trans ((va_up_ne _ _ (by decide)).trans ((congrFun hG 1012).trans gM_12))
        have g_41 := (congrFun eG_29 1013).trans ((va_up_ne _ _ (by decide)).trans ((congrFun hG 1013).trans gM_13))
        have g_42 := (congrFun eG_29 1014).trans ((va_up_ne _ _ (by decide)).trans ((congrFun hG 1014).trans gM_14))
        have g_43 := (congrFun eG_29 1015).trans ((va_up_ne _ _ (by decide)).trans ((congrFun hG 1015).trans gM_15))
        have g_44 := (congrFun eG_29 1016).trans ((va_up_ne _ _ (by decide)).trans ((congrFun hG 1016).trans gM_16))
        have g_45 := (congrFun eG_29 1021).trans ((va_up_ne _ _ (by decide)).trans ((congrFun hG 1021).trans gM_21))
        have g_46 := (congrFun eG_29 1022).trans ((va_up_ne _ _ (by decide)).trans ((congrFun hG 1022).trans gM_22))
        have g_47 := (congrFun eG_29 1023).trans ((va_up_ne _ _ (by decide)).trans ((congrFun hG 1023).trans gM_23))
        have g_48 := (congrFun eG_29 1024).trans ((va_up_ne _ _ (by decide)).trans ((congrFun hG 1024).trans gM_24))
        have g_49 := (congrFun eG_29 1025).trans ((va_up_ne _ _ (by decide)).trans ((congrFun hG 1025).trans gM_25))
        have hG : G_29 = gM dA ad A B (va_up S 0 2) sd G0 := by rw [eG_29, hG]; exact gM_uo (va_up S 0 2)
        refine lv_aload_n hx hb d_M_rate_39 rfl (lv_at hl 0 rfl) ?_
        refine m_get (v := .int 2) (C := R_M) (T := T_M) (N := 28) hx hb hT in_M hown hC.1 hm 1000 rfl g_30 rfl 0 (by decide) (hT _ k_590) (fun _ h9 => h9) rfl d_M_rate_40 ?_
        refine lv_if_ne (tgt := 58) hx hb d_M_rate_43 (by decide) (fun _ => ?_) (fun c9 => absurd c9 (by decide))
        exact m_vret hx hb hr hm (Or.inr (Or.inl ⟨⟨bv_ne w_2 c_5, bv_ne w_25 c_12⟩, (Classical.not_not.mp (fun q => bv_eq w_28 c_28 (by rw [ex_26]; exact (inJ (p := p2) (lo := 0) (hi := 1000000) (a := 0) (b := 1000000) (by decide) (by decide)).mpr q))), by rw [hG]⟩)) d_M_rate_58 hlocks
      · refine lv_iconst (v := 0) hx hb d_M_rate_31 (by decide) ?_
        refine lv_goto (tgt := 36) hx hb d_M_rate_32 (by decide) ?_
        refine m_put (v := .int 0) (ty := .int) (C := R_M) (T := T_M) (N := 28) hx hb hT in_M t_M tok_M nm_M hown hC.1 hm 1000 rfl ((congrFun hG 1000).trans gM_o) rfl 0 (by decide) (hT _ k_590) (fun _ h9 => h9) rfl (by decide +kernel) rfl rfl (Nat.le_of_ble_eq_true rfl) d_M_rate_36 (fun H locs hm => ?_)
        obtain ⟨G_50, eG_50⟩ : ∃ z : mG, z = va_up G 1000 (some (.inr (6, [.int 0, .long sd, .int (S 2), .ref (ad 1003), .ref (ad 1004), .ref (ad 1005), .ref (ad 1006), .ref (ad 1007), .ref (ad 1008), .ref (ad 1009), .ref (ad 1010), .ref (ad 1011), .ref (ad 1012), .ref (ad 1013), .ref (ad 1014), .ref (ad 1015), .ref (ad 1016), .int (S 17), .int (S 18), .int (S 19), .int (S 20), .ref (ad 1021), .ref (ad 1022), .ref (ad 1023), .ref (ad 1024), .ref (ad 1025), .int (S 26), .int (S 27)]))) := ⟨_, rfl⟩
        have hm : mS D mCl (mA ad G s.heap.size) s.heap ad G_50 H locs := by rw [eG_50]; exact hm
        have g_51 : G_50 1000 = some (.inr (6, [.int 0, .long sd, .int (S 2), .ref (ad 1003), .ref (ad 1004), .ref (ad 1005), .ref (ad 1006), .ref (ad 1007), .ref (ad 1008), .ref (ad 1009), .ref (ad 1010), .ref (ad 1011), .ref (ad 1012), .ref (ad 1013), .ref (ad 1014), .ref (ad 1015), .ref (ad 1016), .int (S 17), .int (S 18), .int (S 19), .int (S 20), .ref (ad 1021), .ref (ad 1022), .ref (ad 1023), .ref (ad 1024), .ref (ad 1025), .int (S 26), .int (S 27)])) := by rw [eG_50, va_up_self]
        have g_52 := (congrFun eG_50 1003).trans ((va_up_ne _ _ (by decide)).trans ((congrFun hG 1003).trans gM_3))
        have g_53 := (congrFun eG_50 1004).trans ((va_up_ne _ _ (by decide)).trans ((congrFun hG 1004).trans gM_4))
        have g_54 := (congrFun eG_50 1005).trans ((va_up_ne _ _ (by decide)).trans ((congrFun hG 1005).trans gM_5))
        have g_55 := (congrFun eG_50 1006).trans ((va_up_ne _ _ (by decide)).trans ((congrFun hG 1006).trans gM_6))
        have g_56 := (congrFun eG_50 1007).trans ((va_up_ne _ _ (by decide)).trans ((congrFun hG 1007).trans gM_7))
        have g_57 := (congrFun eG_50 1008).trans ((va_up_ne _ _ (by decide)).trans ((congrFun hG 1008).trans gM_8))
        have g_58 := (congrFun eG_50 1009).trans ((va_up_ne _ _ (by decide)).trans ((congrFun hG 1009).trans gM_9))
        have g_59 := (congrFun eG_50 1010).trans ((va_up_ne _ _ (by decide)).trans ((congrFun hG 1010).trans gM_10))
        have g_60 := (congrFun eG_50 1011).trans ((va_up_ne _ _ (by decide)).trans ((congrFun hG 1011).trans gM_11))
        have g_61 := (congrFun eG_50 1012).trans ((va_up_ne _ _ (by decide)).trans ((congrFun hG 1012).trans gM_12))
        have g_62 := (congrFun eG_50 1013).trans ((va_up_ne _ _ (by decide)).trans ((congrFun hG 1013).trans gM_13))
        have g_63 := (congrFun eG_50 1014).trans ((va_up_ne _ _ (by decide)).trans ((congrFun hG 1014).trans gM_14))
        have g_64 := (congrFun eG_50 1015).trans ((va_up_ne _ _ (by decide)).trans ((congrFun hG 1015).trans gM_15))
        have g_65 := (congrFun eG_50 1016).trans ((va_up_ne _ _ (by decide)).trans ((congrFun hG 1016).trans gM_16))
        have g_66 := (congrFun eG_50 1021).trans ((va_up_ne _ _ (by decide)).trans ((congrFun hG 1021).trans gM_21))
        have g_67 := (congrFun eG_50 1022).trans ((va_up_ne _ _ (by decide)).trans ((congrFun hG 1022).trans gM_22))
        have g_68 := (congrFun eG_50 1023).trans ((va_up_ne _ _ (by decide)).trans ((congrFun hG 1023).trans gM_23))
        have g_69 := (congrFun eG_50 1024).trans ((va_up_ne _ _ (by decide)).trans ((congrFun hG 1024).trans gM_24))
        have g_70 := (congrFun eG_50 1025).trans ((va_up_ne _ _ (by decide)).trans ((congrFun hG 1025).trans gM_25))
        have hG : G_50 = gM dA ad A B (va_up S 0 0) sd G0 := by rw [eG_50, hG]; exact gM_uo (va_up S 0 0)
        refine lv_aload_n hx hb d_M_rate_39 rfl (lv_at hl 0 rfl) ?_
        refine m_get (v := .int 0) (C := R_M) (T := T_M) (N := 28) hx hb hT in_M hown hC.1 hm 1000 rfl g_51 rfl 0 (by decide) (hT _ k_590) (fun _ h9 => h9) rfl d_M_rate_40 ?_
        refine lv_if_ne (tgt := 58) hx hb d_M_rate_43 (by decide) (fun c9 => absurd c9 (by decide)) (fun _ => ?_)
        obtain ⟨a, ha4, ea⟩ := bv_ne w_2 c_5
        obtain ⟨b, hb4, eb⟩ := bv_ne w_25 c_12
        refine lv_aload_n hx hb d_M_rate_46 rfl (lv_at hl 0 rfl) ?_
        refine m_get (v := .ref (ad 1011)) (C := R_M) (T := T_M) (N := 28) hx hb hT in_M hown hC.1 hm 1000 rfl g_51 rfl 11 (by decide) (hT _ k_601) (fun _ h9 => h9) rfl d_M_rate_47 ?_
        refine lv_iconst (v := 4) hx hb d_M_rate_50 (by decide) ?_
        refine lv_iload_n hx hb d_M_rate_51 rfl (lv_at hl 1 rfl) ?_
        refine lv_imul hx hb d_M_rate_52 ?_
        refine lv_topi (fun x_71 ex_71 => ?_)
        refine lv_iload_n hx hb d_M_rate_53 rfl (lv_at hl 2 rfl) ?_
        refine lv_iadd hx hb d_M_rate_54 ?_
        refine lv_topi (fun x_72 ex_72 => ?_)
        have hix : x_72 = nI (4 * a + b) := by rw [ex_72, ex_71, ea, eb, show (4 : Int32) = nI 4 from rfl, pk_mul, nI_add]
        refine lv_iload_n hx hb d_M_rate_55 rfl (lv_at hl 3 rfl) ?_
        refine lv_i2l hx hb d_M_rate_56 rfl ?_
        refine lv_topl (fun x_73 ex_73 => ?_)
        refine m_last hx hb hC.1 hm 1011 rfl 1 g_60 rfl (by rw [hix]; exact vp_in_nI (by omega) (by decide)) d_M_rate_57 (fun H locs hm => ?_)
        rw [show (x_72).toNatClampNeg = (4 * a + b) by rw [hix, nI_clamp (by omega)]] at hm
        obtain ⟨G_74, eG_74⟩ : ∃ z : mG, z = va_up G_50 1011 (some (.inl ((dA 1), 16, .inr (.inl (vp_updL (B 11) (4 * a + b) x_73))))) := ⟨_, rfl⟩
        have hm : mS D mCl (mA ad G s.heap.size) s.heap ad G_74 H locs := by rw [eG_74]; exact hm
        have g_75 := (congrFun eG_74 1000).trans ((va_up_ne _ _ (by decide)).trans g_51)
        have g_76 := (congrFun eG_74 1003).trans ((va_up_ne _ _ (by decide)).trans g_52)
        have g_77 := (congrFun eG_74 1004).trans ((va_up_ne _ _ (by decide)).trans g_53)
        have g_78 := (congrFun eG_74 1005).trans ((va_up_ne _ _ (by decide)).trans g_54)
        have g_79 := (congrFun eG_74 1006).trans ((va_up_ne _ _ (by decide)).trans g_55)
        have g_80 := (congrFun eG_74 1007).trans ((va_up_ne _ _ (by decide)).trans g_56)
        have g_81 := (congrFun eG_74 1008).trans ((va_up_ne _ _ (by decide)).trans g_57)
        have g_82 := (congrFun eG_74 1009).trans ((va_up_ne _ _ (by decide)).trans g_58)
        have g_83 := (congrFun eG_74 1010).trans ((va_up_ne _ _ (by decide)).trans g_59)
        have g_84 : G_74 1011 = some (.inl ((dA 1), 16, .inr (.inl (vp_updL (B 11) (4 * a + b) x_73)))) := by rw [eG_74, va_up_self]
        have g_85 := (congrFun eG_74 1012).trans ((va_up_ne _ _ (by decide)).trans g_61)
        have g_86 := (congrFun eG_74 1013).trans ((va_up_ne _ _ (by decide)).trans g_62)
        have g_87 := (congrFun eG_74 1014).trans ((va_up_ne _ _ (by decide)).trans g_63)
        have g_88 := (congrFun eG_74 1015).trans ((va_up_ne _ _ (by decide)).trans g_64)
        have g_89 := (congrFun eG_74 1016).trans ((va_up_ne _ _ (by decide)).trans g_65)
        have g_90 := (congrFun eG_74 1021).trans ((va_up_ne _ _ (by decide)).trans g_66)
        have g_91 := (congrFun eG_74 1022).trans ((va_up_ne _ _ (by decide)).trans g_67)
        have g_92 := (congrFun eG_74 1023).trans ((va_up_ne _ _ (by decide)).trans g_68)
        have g_93 := (congrFun eG_74 1024).trans ((va_up_ne _ _ (by decide)).trans g_69)
        have g_94 := (congrFun eG_74 1025).trans ((va_up_ne _ _ (by decide)).trans g_70)
        have hG : G_74 = gM dA ad A (va_up B 11 (vp_updL (B 11) (4 * a + b) x_73)) (va_up S 0 0) sd G0 := by rw [eG_74, hG]; exact gM_u11 _
        exact m_vret hx hb hr hm (Or.inr (Or.inr (⟨a, b, ha4, hb4, ea, eb, (inJ (p := p2) (lo := 0) (hi := 1000000) (a := 0) (b := 1000000) (by decide) (by decide)).mp (by have h9 := bv_ne w_28 c_28; rw [ex_26] at h9; exact h9), by rw [hG, ex_73]⟩))) d_M_rate_58 hlocks
    · refine lv_iconst (v := 1) hx hb d_M_rate_15 (by decide) ?_
      refine lv_goto (tgt := 36) hx hb d_M_rate_16 (by decide) ?_
      refine m_put (v := .int 1) (ty := .int) (C := R_M) (T := T_M) (N := 28) hx hb hT in_M t_M tok_M nm_M hown hC.1 hm 1000 rfl ((congrFun hG 1000).trans gM_o) rfl 0 (by decide) (hT _ k_590) (fun _ h9 => h9) rfl (by decide +kernel) rfl rfl (Nat.le_of_ble_eq_true rfl) d_M_rate_36 (fun H locs hm => ?_)
      obtain ⟨G_95, eG_95⟩ : ∃ z : mG, z = va_up G 1000 (some (.inr (6, [.int 1, .long sd, .int (S 2), .ref (ad 1003), .ref (ad 1004), .ref (ad 1005), .ref (ad 1006), .ref (ad 1007), .ref (ad 1008), .ref (ad 1009), .ref (ad 1010), .ref (ad 1011), .ref (ad 1012), .ref (ad 1013), .ref (ad 1014), .ref (ad 1015), .ref (ad 1016), .int (S 17), .int (S 18), .int (S 19), .int (S 20), .ref (ad 1021), .ref (ad 1022), .ref (ad 1023), .ref (ad 1024), .ref (ad 1025), .int (S 26), .int (S 27)]))) := ⟨_, rfl⟩
      have hm : mS D mCl (mA ad G s.heap.size) s.heap ad G_95 H locs := by rw [eG_95]; exact hm
      have g_96 : G_95 1000 = some (.inr (6, [.int 1, .long sd, .int (S 2), .ref (ad 1003), .ref (ad 1004), .ref (ad 1005), .ref (ad 1006), .ref (ad 1007), .ref (ad 1008), .ref (ad 1009), .ref (ad 1010), .ref (ad 1011), .ref (ad 1012), .ref (ad 1013), .ref (ad 1014), .ref (ad 1015), .ref (ad 1016), .int (S 17), .int (S 18), .int (S 19), .int (S 20), .ref (ad 1021), .ref (ad 1022), .ref (ad 1023), .ref (ad 1024), .ref (ad 1025), .int (S 26), .int (S 27)])) := by rw [eG_95, va_up_self]
      have g_97 := (congrFun eG_95 1003).trans ((va_up_ne _ _ (by decide)).trans ((congrFun hG 1003).trans gM_3))
      have g_98 := (congrFun eG_95 1004).trans ((va_up_ne _ _ (by decide)).trans ((congrFun hG 1004).trans gM_4))
      have g_99 := (congrFun eG_95 1005).trans ((va_up_ne _ _ (by decide)).trans ((congrFun hG 1005).trans gM_5))
      have g_100 := (congrFun eG_95 1006).trans ((va_up_ne _ _ (by decide)).trans ((congrFun hG 1006).trans gM_6))
      have g_101 := (congrFun eG_95 1007).trans ((va_up_ne _ _ (by decide)).trans ((congrFun hG 1007).trans gM_7))
      have g_102 := (congrFun eG_95 1008).trans ((va_up_ne _ _ (by decide)).trans ((congrFun hG 1008).trans gM_8))
      have g_103 := (congrFun eG_95 1009).trans ((va_up_ne _ _ (by decide)).trans ((congrFun hG 1009).trans gM_9))
      have g_104 := (congrFun eG_95 1010).trans ((va_up_ne _ _ (by decide)).trans ((congrFun hG 1010).trans gM_10))
      have g_105 := (congrFun eG_95 1011).trans ((va_up_ne _ _ (by decide)).trans ((congrFun hG 1011).trans gM_11))
      have g_106 := (congrFun eG_95 1012).trans ((va_up_ne _ _ (by decide)).trans ((congrFun hG 1012).trans gM_12))
      have g_107 := (congrFun eG_95 1013).trans ((va_up_ne _ _ (by decide)).trans ((congrFun hG 1013).trans gM_13))
      have g_108 := (congrFun eG_95 1014).trans ((va_up_ne _ _ (by decide)).trans ((congrFun hG 1014).trans gM_14))
      have g_109 := (congrFun eG_95 1015).trans ((va_up_ne _ _ (by decide)).trans ((congrFun hG 1015).trans gM_15))
      have g_110 := (congrFun eG_95 1016).trans ((va_up_ne _ _ (by decide)).trans ((congrFun hG 1016).trans gM_16))
      have g_111 := (congrFun eG_95 1021).trans ((va_up_ne _ _ (by decide)).trans ((congrFun hG 1021).trans gM_21))
      have g_112 := (congrFun eG_95 1022).trans ((va_up_ne _ _ (by decide)).trans ((congrFun hG 1022).trans gM_22))
      have g_113 := (congrFun eG_95 1023).trans ((va_up_ne _ _ (by decide)).trans ((congrFun hG 1023).trans gM_23))
      have g_114 := (congrFun eG_95 1024).trans ((va_up_ne _ _ (by decide)).trans ((congrFun hG 1024).trans gM_24))
      have g_115 := (congrFun eG_95 1025).trans ((va_up_ne _ _ (by decide)).trans ((congrFun hG 1025).trans gM_25))
      have hG : G_95 = gM dA ad A B (va_up S 0 1) sd G0 := by rw [eG_95, hG]; exact gM_uo (va_up S 0 1)
      refine lv_aload_n hx hb d_M_rate_39 rfl (lv_at hl 0 rfl) ?_
      refine m_get (v := .int 1) (C := R_M) (T := T_M) (N := 28) hx hb hT in_M hown hC.1 hm 1000 rfl g_96 rfl 0 (by decide) (hT _ k_590) (fun _ h9 => h9) rfl d_M_rate_40 ?_
      refine lv_if_ne (tgt := 58) hx hb d_M_rate_43 (by decide) (fun _ => ?_) (fun c9 => absurd c9 (by decide))
      exact m_vret hx hb hr hm (Or.inl ⟨fun h => bv_eq w_25 c_12 h.2, by rw [hG]⟩) d_M_rate_58 hlocks

set_option maxHeartbeats 4000000 in
set_option maxRecDepth 100000 in
theorem c_M_limit (l : Launch) (D : va_G) (dA : Nat → ClassId) (ad : Nat → Nat) (G : mG) (sz : Nat) (A : Nat → Nat → Int32) (B : Nat → Nat → Int64) (S : Nat → Int32) (sd : Int64) (G0 : mG) (hG : G = gM dA ad A B S sd G0) (p0 : Int32) (p1 : Int64) : Met l y_M_limit (.code y_M_limit b_M_limit 4 none :: mBig) ({ frames := 1, cells := 0, slots := 0, locals := 25 }) (mPc [.ref (ad 1000), .int p0, .long p1] D mCl (mTys dA) mTx ad G sz) (mQv (fun (u : mU) => ((¬ (∃ i, i < 4 ∧ p0 = nI i) ∧ u = (ad, gM dA ad A B (va_up S 0 1) sd G0)) ∨ ((∃ i, i < 4 ∧ p0 = nI i) ∧ (p1 < 1 ∨ 1000000000000 < p1) ∧ u = (ad, gM dA ad A B (va_up S 0 2) sd G0)) ∨ (∃ i, i < 4 ∧ p0 = nI i ∧ ¬ (p1 < 1 ∨ 1000000000000 < p1) ∧ u = (ad, gM dA ad A (va_up B 12 (vp_updL (B 12) i p1)) (va_up S 0 0) sd G0)))) D mCl ad G sz) 0 0 (mA ad G sz) := by
  refine Met.ofW (cc := b_M_limit) (maxL := 4) (ret := none) (by decide) rfl ?_
  intro p e s m args below meth c s₁ BB hml hv
  obtain ⟨rfl, hsz, hw0, hC⟩ := hv
  have hx := BB.exec
  have hb := BB.bytes
  have hr := BB.returns
  have hts := atoms_spec (ws := .code y_M_limit b_M_limit 4 none :: mBig) BB.pre
  have hT : ∀ w ∈ mBig, w.before _ s = true := fun w h => hts w (List.mem_cons_of_mem _ h)
  have hown : s.vm.findClass "EdgeWearModel" = some m.cls := findClass_of_methodNamed BB.named
  have hlocks := BB.notSynchronized
  subst hsz
  have hm := mS.start hw0
  have hA : ∀ q : Nat, s.heap.size ≤ q → mA ad G s.heap.size q := fun q h => Or.inr h
  have hl := lv_entry ([.ref (ad 1000), .int p0, .long p1]) (n := 4) (Nat.le_of_ble_eq_true rfl)
  rw [lg_entry_eq]
  generalize (lg_sl ([.ref (ad 1000), .int p0, .long p1]) ++ List.replicate (4 - (lg_sl ([.ref (ad 1000), .int p0, .long p1])).length) Slot.unset).toArray = ls at hl ⊢
  have hl : lv_has ls 4 [(0, .ref (ad 1000)), (1, .int p0), (2, .long p1)] := hl
  refine lv_aload_n hx hb d_M_limit_0 rfl (lv_at hl 0 rfl) ?_
  refine lv_iload_n hx hb d_M_limit_1 rfl (lv_at hl 1 rfl) ?_
  refine m_roi (m_runS (As := [.int p0]) (rest := [.ref (ad 1000)]) ⟨hx, hb, hml, hown, hts⟩ (c_M_isFour l D dA ad G s.heap.size p0) (va_cwS 1 hts (gS k_687 k_685 k_686 k_4) rfl rfl rfl (by decide +kernel) ⟨Nat.le_of_ble_eq_true rfl, Nat.le_of_ble_eq_true rfl⟩) hm hA hC rfl hl.1 rfl (Nat.le_of_ble_eq_true rfl) d_M_limit_2 ⟨Nat.le_of_ble_eq_true rfl, Nat.le_of_ble_eq_true rfl⟩) hm hA (fun r_1 H locs w_2 hm => ?_)
  refine lv_if_ne (tgt := 12) hx hb d_M_limit_5 (by decide) (fun c_5 => ?_) (fun c_5 => ?_)
  · refine lv_lload_n hx hb d_M_limit_12 rfl (lv_at hl 2 rfl) ?_
    refine lv_lconst (v := 1) hx hb d_M_limit_13 (by decide) ?_
    refine lv_ldc2 (v := 1000000000000) hx hb hown (hT _ k_700) d_M_limit_14 ?_
    refine m_roi (m_runS (As := [.long p1, .long 1, .long 1000000000000]) (rest := [.ref (ad 1000)]) ⟨hx, hb, hml, hown, hts⟩ (c_M_isIn l D dA ad G H.size p1 1 1000000000000) (va_cwS 3 hts (gS k_690 k_688 k_689 k_4) rfl rfl rfl (by decide +kernel) ⟨Nat.le_of_ble_eq_true rfl, Nat.le_of_ble_eq_true rfl⟩) hm hA hC rfl hl.1 rfl (Nat.le_of_ble_eq_true rfl) d_M_limit_17 ⟨Nat.le_of_ble_eq_true rfl, Nat.le_of_ble_eq_true rfl⟩) hm hA (fun r_3 H locs w_4 hm => ?_)
    refine lv_if_eq (tgt := 27) hx hb d_M_limit_20 (by decide) (fun c_20 => ?_) (fun c_20 => ?_)
    · refine lv_iconst (v := 2) hx hb d_M_limit_27 (by decide) ?_
      refine m_put (v := .int 2) (ty := .int) (C := R_M) (T := T_M) (N := 28) hx hb hT in_M t_M tok_M nm_M hown hC.1 hm 1000 rfl ((congrFun hG 1000).trans gM_o) rfl 0 (by decide) (hT _ k_590) (fun _ h9 => h9) rfl (by decide +kernel) rfl rfl (Nat.le_of_ble_eq_true rfl) d_M_limit_28 (fun H locs hm => ?_)
      obtain ⟨G_5, eG_5⟩ : ∃ z : mG, z = va_up G 1000 (some (.inr (6, [.int 2, .long sd, .int (S 2), .ref (ad 1003), .ref (ad 1004), .ref (ad 1005), .ref (ad 1006), .ref (ad 1007), .ref (ad 1008), .ref (ad 1009), .ref (ad 1010), .ref (ad 1011), .ref (ad 1012), .ref (ad 1013), .ref (ad 1014), .ref (ad 1015), .ref (ad 1016), .int (S 17), .int (S 18), .int (S 19), .int (S 20), .ref (ad 1021), .ref (ad 1022), .ref (ad 1023), .ref (ad 1024), .ref (ad 1025), .int (S 26), .int (S 27)]))) := ⟨_, rfl⟩
      have hm : mS D mCl (mA ad G s.heap.size) s.heap ad G_5 H locs := by rw [eG_5]; exact hm
      have g_6 : G_5 1000 = some (.inr (6, [.int 2, .long sd, .int (S 2), .ref (ad 1003), .ref (ad 1004), .ref (ad 1005), .ref (ad 1006), .ref (ad 1007), .ref (ad 1008), .ref (ad 1009), .ref (ad 1010), .ref (ad 1011), .ref (ad 1012), .ref (ad 1013), .ref (ad 1014), .ref (ad 1015), .ref (ad 1016), .int (S 17), .int (S 18), .int (S 19), .int (S 20), .ref (ad 1021), .ref (ad 1022), .ref (ad 1023), .ref (ad 1024), .ref (ad 1025), .int (S 26), .int (S 27)])) := by rw [eG_5, va_up_self]
      have g_7 := (congrFun eG_5 1003).trans ((va_up_ne _ _ (by decide)).trans ((congrFun hG 1003).trans gM_3))
      have g_8 := (congrFun eG_5 1004).trans ((va_up_ne _ _ (by decide)).trans ((congrFun hG 1004).trans gM_4))
      have g_9 := (congrFun eG_5 1005).trans ((va_up_ne _ _ (by decide)).trans ((congrFun hG 1005).trans gM_5))
      have g_10 := (congrFun eG_5 1006).trans ((va_up_ne _ _ (by decide)).trans ((congrFun hG 1006).trans gM_6))
      have g_11 := (congrFun eG_5 1007).trans ((va_up_ne _ _ (by decide)).trans ((congrFun hG 1007).trans gM_7))
      have g_12 := (congrFun eG_5 1008).trans ((va_up_ne _ _ (by decide)).trans ((congrFun hG 1008).trans gM_8))
      have g_13 := (congrFun eG_5 1009).trans ((va_up_ne _ _ (by decide)).trans ((congrFun hG 1009).trans gM_9))
      have g_14 := (congrFun eG_5 1010).trans ((va_up_ne _ _ (by decide)).trans ((congrFun hG 1010).trans gM_10))
      have g_15 := (congrFun eG_5 1011).trans ((va_up_ne _ _ (by decide)).trans ((congrFun hG 1011).trans gM_11))
      have g_16 := (congrFun eG_5 1012).trans ((va_up_ne _ _ (by decide)).trans ((congrFun hG 1012).trans gM_12))
      have g_17 := (congrFun eG_5 1013).trans ((va_up_ne _ _ (by decide)).trans ((congrFun hG 1013).trans gM_13))
      have g_18 := (congrFun eG_5 1014).trans ((va_up_ne _ _ (by decide)).trans ((congrFun hG 1014).trans gM_14))
      have g_19 := (congrFun eG_5 1015).trans ((va_up_ne _ _ (by decide)).trans ((congrFun hG 1015).trans gM_15))
      have g_20 := (congrFun eG_5 1016).trans ((va_up_ne _ _ (by decide)).trans ((congrFun hG 1016).trans gM_16))
      have g_21 := (congrFun eG_5 1021).trans ((va_up_ne _ _ (by decide)).trans ((congrFun hG 1021).trans gM_21))
      have g_22 := (congrFun eG_5 1022).trans ((va_up_ne _ _ (by decide)).trans ((congrFun hG 1022).trans gM_22))
      have g_23 := (congrFun eG_5 1023).trans ((va_up_ne _ _ (by decide)).trans ((congrFun hG 1023).trans gM_23))
      have g_24 := (congrFun eG_5 1024).trans ((va_up_ne _ _ (by decide)).trans ((congrFun hG 1024).trans gM_24))
      have g_25 := (congrFun eG_5 1025).trans ((va_up_ne _ _ (by decide)).trans ((congrFun hG 1025).trans gM_25))
      have hG : G_5 = gM dA ad A B (va_up S 0 2) sd G0 := by rw [eG_5, hG]; exact gM_uo (va_up S 0 2)
      refine lv_aload_n hx hb d_M_limit_31 rfl (lv_at hl 0 rfl) ?_
      refine m_get (v := .int 2) (C := R_M) (T := T_M) (N := 28) hx hb hT in_M hown hC.1 hm 1000 rfl g_6 rfl 0 (by decide) (hT _ k_590) (fun _ h9 => h9) rfl d_M_limit_32 ?_
      refine lv_if_ne (tgt := 45) hx hb d_M_limit_35 (by decide) (fun _ => ?_) (fun c9 => absurd c9 (by decide))
      exact m_vret hx hb hr hm (Or.inr (Or.inl ⟨bv_ne w_2 c_5, (Classical.not_not.mp (fun q => bv_eq w_4 c_20 (inL.mpr q))), by rw [hG]⟩)) d_M_limit_45 hlocks
    · refine lv_iconst (v := 0) hx hb d_M_limit_23 (by decide) ?_
      refine lv_goto (tgt := 28) hx hb d_M_limit_24 (by decide) ?_
      refine m_put (v := .int 0) (ty := .int) (C := R_M) (T := T_M) (N := 28) hx hb hT in_M t_M tok_M nm_M hown hC.1 hm 1000 rfl ((congrFun hG 1000).trans gM_o) rfl 0 (by decide) (hT _ k_590) (fun _ h9 => h9) rfl (by decide +kernel) rfl rfl (Nat.le_of_ble_eq_true rfl) d_M_limit_28 (fun H locs hm => ?_)
      obtain ⟨G_26, eG_26⟩ : ∃ z : mG, z = va_up G 1000 (some (.inr (6, [.int 0, .long sd, .int (S 2), .ref (ad 1003), .ref (ad 1004), .ref (ad 1005), .ref (ad 1006), .ref (ad 1007), .ref (ad 1008), .ref (ad 1009), .ref (ad 1010), .ref (ad 1011), .ref (ad 1012), .ref (ad 1013), .ref (ad 1014), .ref (ad 1015), .ref (ad 1016), .int (S 17), .int (S 18), .int (S 19), .int (S 20), .ref (ad 1021), .ref (ad 1022), .ref (ad 1023), .ref (ad 1024), .ref (ad 1025), .int (S 26), .int (S 27)]))) := ⟨_, rfl⟩
      have hm : mS D mCl (mA ad G s.heap.size) s.heap ad G_26 H locs := by rw [eG_26]; exact hm
      have g_27 : G_26 1000 = some (.inr (6, [.int 0, .long sd, .int (S 2), .ref (ad 1003), .ref (ad 1004), .ref (ad 1005), .ref (ad 1006), .ref (ad 1007), .ref (ad 1008), .ref (ad 1009), .ref (ad 1010), .ref (ad 1011), .ref (ad 1012), .ref (ad 1013), .ref (ad 1014), .ref (ad 1015), .ref (ad 1016), .int (S 17), .int (S 18), .int (S 19), .int (S 20), .ref (ad 1021), .ref (ad 1022), .ref (ad 1023), .ref (ad 1024), .ref (ad 1025), .int (S 26), .int (S 27)])) := by rw [eG_26, va_up_self]
      have g_28 := (congrFun eG_26 1003).trans ((va_up_ne _ _ (by decide)).trans ((congrFun hG 1003).trans gM_3))
      have g_29 := (congrFun eG_26 1004).trans ((va_up_ne _ _ (by decide)).trans ((congrFun hG 1004).trans gM_4))
      have g_30 := (congrFun eG_26 1005).trans ((va_up_ne _ _ (by decide)).trans ((congrFun hG 1005).trans gM_5))
      have g_31 := (congrFun eG_26 1006).trans ((va_up_ne _ _ (by decide)).trans ((congrFun hG 1006).trans gM_6))
      have g_32 := (congrFun eG_26 1007).trans ((va_up_ne _ _ (by decide)).trans ((congrFun hG 1007).trans gM_7))
      have g_33 := (congrFun eG_26 1008).trans ((va_up_ne _ _ (by decide)).trans ((congrFun hG 1008).trans gM_8))
      have g_34 := (congrFun eG_26 1009).trans ((va_up_ne _ _ (by decide)).trans ((congrFun hG 1009).trans gM_9))
      have g_35 := (congrFun eG_26 1010).trans ((va_up_ne _ _ (by decide)).trans ((congrFun hG 1010).trans gM_10))
      have g_36 := (congrFun eG_26 1011).trans ((va_up_ne _ _ (by decide)).trans ((congrFun hG 1011).trans gM_11))
      have g_37 := (congrFun eG_26 1012).trans ((va_up_ne _ _ (by decide)).trans ((congrFun hG 1012).trans gM_12))
      have g_38 := (congrFun eG_26 1013).trans ((va_up_ne _ _ (by decide)).trans ((congrFun hG 1013).trans gM_13))
      have g_39 := (congrFun eG_26 1014).trans ((va_up_ne _ _ (by decide)).trans ((congrFun hG 1014).trans gM_14))
      have g_40 := (congrFun eG_26 1015).trans ((va_up_ne _ _ (by decide)).trans ((congrFun hG 1015).trans gM_15))
      have g_41 := (congrFun eG_26 1016).trans ((va_up_ne _ _ (by decide)).trans ((congrFun hG 1016).trans gM_16))
      have g_42 := (congrFun eG_26 1021).trans ((va_up_ne _ _ (by decide)).trans ((congrFun hG 1021).trans gM_21))
      have g_43 := (congrFun eG_26 1022).trans ((va_up_ne _ _ (by decide)).trans ((congrFun hG 1022).trans gM_22))
      have g_44 := (congrFun eG_26 1023).trans ((va_up_ne _ _ (by decide)).trans ((congrFun hG 1023).trans gM_23))
      have g_45 := (congrFun eG_26 1024).trans ((va_up_ne _ _ (by decide)).trans ((congrFun hG 1024).trans gM_24))
      have g_46 := (congrFun eG_26 1025).trans ((va_up_ne _ _ (by decide)).trans ((congrFun hG 1025).trans gM_25))
      have hG : G_26 = gM dA ad A B (va_up S 0 0) sd G0 := by rw [eG_26, hG]; exact gM_uo (va_up S 0 0)
      refine lv_aload_n hx hb d_M_limit_31 rfl (lv_at hl 0 rfl) ?_
      refine m_get (v := .int 0) (C := R_M) (T := T_M) (N := 28) hx hb hT in_M hown hC.1 hm 1000 rfl g_27 rfl 0 (by decide) (hT _ k_590) (fun _ h9 => h9) rfl d_M_limit_32 ?_
      refine lv_if_ne (tgt := 45) hx hb d_M_limit_35 (by decide) (fun c9 => absurd c9 (by decide)) (fun _ => ?_)
      obtain ⟨i, hi, epi⟩ := bv_ne w_2 c_5
      refine lv_aload_n hx hb d_M_limit_38 rfl (lv_at hl 0 rfl) ?_
      refine m_get (v := .ref (ad 1012)) (C := R_M) (T := T_M) (N := 28) hx hb hT in_M hown hC.1 hm 1000 rfl g_27 rfl 12 (by decide) (hT _ k_602) (fun _ h9 => h9) rfl d_M_limit_39 ?_
      refine lv_iload_n hx hb d_M_limit_42 rfl (lv_at hl 1 rfl) ?_
      refine lv_lload_n hx hb d_M_limit_43 rfl (lv_at hl 2 rfl) ?_
      refine m_last hx hb hC.1 hm 1012 rfl 1 g_37 rfl (by rw [epi]; exact vp_in_nI (by omega) (by decide)) d_M_limit_44 (fun H locs hm => ?_)
      rw [show (p0).toNatClampNeg = i by rw [epi, nI_clamp (by omega)]] at hm
      obtain ⟨G_47, eG_47⟩ : ∃ z : mG, z = va_up G_26 1012 (some (.inl ((dA 1), 4, .inr (.inl (vp_updL (B 12) i p1))))) := ⟨_, rfl⟩
      have hm : mS D mCl (mA ad G s.heap.size) s.heap ad G_47 H locs := by rw [eG_47]; exact hm
      have g_48 := (congrFun eG_47 1000).trans ((va_up_ne _ _ (by decide)).trans g_27)
      have g_49 := (congrFun eG_47 1003).trans ((va_up_ne _ _ (by decide)).trans g_28)
      have g_50 := (congrFun eG_47 1004).trans ((va_up_ne _ _ (by decide)).trans g_29)
      have g_51 := (congrFun eG_47 1005).trans ((va_up_ne _ _ (by decide)).trans g_30)
      have g_52 := (congrFun eG_47 1006).trans ((va_up_ne _ _ (by decide)).trans g_31)
      have g_53 := (congrFun eG_47 1007).trans ((va_up_ne _ _ (by decide)).trans g_32)
      have g_54 := (congrFun eG_47 1008).trans ((va_up_ne _ _ (by decide)).trans g_33)
      have g_55 := (congrFun eG_47 1009).trans ((va_up_ne _ _ (by decide)).trans g_34)
      have g_56 := (congrFun eG_47 1010).trans ((va_up_ne _ _ (by decide)).trans g_35)
      have g_57 := (congrFun eG_47 1011).trans ((va_up_ne _ _ (by decide)).trans g_36)
      have g_58 : G_47 1012 = some (.inl ((dA 1), 4, .inr (.inl (vp_updL (B 12) i p1)))) := by rw [eG_47, va_up_self]
      have g_59 := (congrFun eG_47 1013).trans ((va_up_ne _ _ (by decide)).trans g_38)
      have g_60 := (congrFun eG_47 1014).trans ((va_up_ne _ _ (by decide)).trans g_39)
      have g_61 := (congrFun eG_47 1015).trans ((va_up_ne _ _ (by decide)).trans g_40)
      have g_62 := (congrFun eG_47 1016).trans ((va_up_ne _ _ (by decide)).trans g_41)
      have g_63 := (congrFun eG_47 1021).trans ((va_up_ne _ _ (by decide)).trans g_42)
      have g_64 := (congrFun eG_47 1022).trans ((va_up_ne _ _ (by decide)).trans g_43)
      have g_65 := (congrFun eG_47 1023).trans ((va_up_ne _ _ (by decide)).trans g_44)
      have g_66 := (congrFun eG_47 1024).trans ((va_up_ne _ _ (by decide)).trans g_45)
      have g_67 := (congrFun eG_47 1025).trans ((va_up_ne _ _ (by decide)).trans g_46)
      have hG : G_47 = gM dA ad A (va_up B 12 (vp_updL (B 12) i p1)) (va_up S 0 0) sd G0 := by rw [eG_47, hG]; exact gM_u12 _
      exact m_vret hx hb hr hm (Or.inr (Or.inr (⟨i, hi, epi, inL.mp (bv_ne w_4 c_20), by rw [hG]⟩))) d_M_limit_45 hlocks
  · refine lv_iconst (v := 1) hx hb d_M_limit_8 (by decide) ?_
    refine lv_goto (tgt := 28) hx hb d_M_limit_9 (by decide) ?_
    refine m_put (v := .int 1) (ty := .int) (C := R_M) (T := T_M) (N := 28) hx hb hT in_M t_M tok_M nm_M hown hC.1 hm 1000 rfl ((congrFun hG 1000).trans gM_o) rfl 0 (by decide) (hT _ k_590) (fun _ h9 => h9) rfl (by decide +kernel) rfl rfl (Nat.le_of_ble_eq_true rfl) d_M_limit_28 (fun H locs hm => ?_)
    obtain ⟨G_68, eG_68⟩ : ∃ z : mG, z = va_up G 1000 (some (.inr (6, [.int 1, .long sd, .int (S 2), .ref (ad 1003), .ref (ad 1004), .ref (ad 1005), .ref (ad 1006), .ref (ad 1007), .ref (ad 1008), .ref (ad 1009), .ref (ad 1010), .ref (ad 1011), .ref (ad 1012), .ref (ad 1013), .ref (ad 1014), .ref (ad 1015), .ref (ad 1016), .int (S 17), .int (S 18), .int (S 19), .int (S 20), .ref (ad 1021), .ref (ad 1022), .ref (ad 1023), .ref (ad 1024), .ref (ad 1025), .int (S 26), .int (S 27)]))) := ⟨_, rfl⟩
    have hm : mS D mCl (mA ad G s.heap.size) s.heap ad G_68 H locs := by rw [eG_68]; exact hm
    have g_69 : G_68 1000 = some (.inr (6, [.int 1, .long sd, .int (S 2), .ref (ad 1003), .ref (ad 1004), .ref (ad 1005), .ref (ad 1006), .ref (ad 1007), .ref (ad 1008), .ref (ad 1009), .ref (ad 1010), .ref (ad 1011), .ref (ad 1012), .ref (ad 1013), .ref (ad 1014), .ref (ad 1015), .ref (ad 1016), .int (S 17), .int (S 18), .int (S 19), .int (S 20), .ref (ad 1021), .ref (ad 1022), .ref (ad 1023), .ref (ad 1024), .ref (ad 1025), .int (S 26), .int (S 27)])) := by rw [eG_68, va_up_self]
    have g_70 := (congrFun eG_68 1003).trans ((va_up_ne _ _ (by decide)).trans ((congrFun hG 1003).trans gM_3))
    have g_71 := (congrFun eG_68 1004).trans ((va_up_ne _ _ (by decide)).trans ((congrFun hG 1004).trans gM_4))
    have g_72 := (congrFun eG_68 1005).trans ((va_up_ne _ _ (by decide)).trans ((congrFun hG 1005).trans gM_5))
    have g_73 := (congrFun eG_68 1006).trans ((va_up_ne _ _ (by decide)).trans ((congrFun hG 1006).trans gM_6))
    have g_74 := (congrFun eG_68 1007).trans ((va_up_ne _ _ (by decide)).trans ((congrFun hG 1007).trans gM_7))
    have g_75 := (congrFun eG_68 1008).trans ((va_up_ne _ _ (by decide)).trans ((congrFun hG 1008).trans gM_8))
    have g_76 := (congrFun eG_68 1009).trans ((va_up_ne _ _ (by decide)).trans ((congrFun hG 1009).trans gM_9))
    have g_77 := (congrFun eG_68 1010).trans ((va_up_ne _ _ (by decide)).trans ((congrFun hG 1010).trans gM_10))
    have g_78 := (congrFun eG_68 1011).trans ((va_up_ne _ _ (by decide)).trans ((congrFun hG 1011).trans gM_11))
    have g_79 := (congrFun eG_68 1012).trans ((va_up_ne _ _ (by decide)).trans ((congrFun hG 1012).trans gM_12))
    have g_80 := (congrFun eG_68 1013).trans ((va_up_ne _ _ (by decide)).trans ((congrFun hG 1013).trans gM_13))
    have g_81 := (congrFun eG_68 1014).trans ((va_up_ne _ _ (by decide)).trans ((congrFun hG 1014).trans gM_14))
    have g_82 := (congrFun eG_68 1015).trans ((va_up_ne _ _ (by decide)).trans ((congrFun hG 1015).trans gM_15))
    have g_83 := (congrFun eG_68 1016).trans ((va_up_ne _ _ (by decide)).trans ((congrFun hG 1016).trans gM_16))
    have g_84 := (congrFun eG_68 1021).trans ((va_up_ne _ _ (by decide)).trans ((congrFun hG 1021).trans gM_21))
    have g_85 := (congrFun eG_68 1022).trans ((va_up_ne _ _ (by decide)).trans ((congrFun hG 1022).trans gM_22))
    have g_86 := (congrFun eG_68 1023).trans ((va_up_ne _ _ (by decide)).trans ((congrFun hG 1023).trans gM_23))
    have g_87 := (congrFun eG_68 1024).trans ((va_up_ne _ _ (by decide)).trans ((congrFun hG 1024).trans gM_24))
    have g_88 := (congrFun eG_68 1025).trans ((va_up_ne _ _ (by decide)).trans ((congrFun hG 1025).trans gM_25))
    have hG : G_68 = gM dA ad A B (va_up S 0 1) sd G0 := by rw [eG_68, hG]; exact gM_uo (va_up S 0 1)
    refine lv_aload_n hx hb d_M_limit_31 rfl (lv_at hl 0 rfl) ?_
    refine m_get (v := .int 1) (C := R_M) (T := T_M) (N := 28) hx hb hT in_M hown hC.1 hm 1000 rfl g_69 rfl 0 (by decide) (hT _ k_590) (fun _ h9 => h9) rfl d_M_limit_32 ?_
    refine lv_if_ne (tgt := 45) hx hb d_M_limit_35 (by decide) (fun _ => ?_) (fun c9 => absurd c9 (by decide))
    exact m_vret hx hb hr hm (Or.inl ⟨bv_eq w_2 c_5, by rw [hG]⟩) d_M_limit_45 hlocks

set_option maxHeartbeats 4000000 in
set_option maxRecDepth 100000 in
theorem c_M_isBlunt (l : Launch) (D : va_G) (dA : Nat → ClassId) (ad : Nat → Nat) (G : mG) (sz : Nat) (A : Nat → Nat → Int32) (B : Nat → Nat → Int64) (S : Nat → Int32) (sd : Int64) (G0 : mG) (hG : G = gM dA ad A B S sd G0) (p0 : Int32) (t z : Nat) (ht : t < 12) (ep : p0 = nI t) (hz4 : z < 4) (hz : A 3 t = nI z) : Met l y_M_isBlunt (.code y_M_isBlunt b_M_isBlunt 2 (some .boolean) :: mBig) ({ frames := 0, cells := 0, slots := 0, locals := 0 }) (mPc [.ref (ad 1000), .int p0] D mCl (mTys dA) mTx ad G sz) (mQi (fun (rv : Int32) (u : mU) => (bv rv (B 12 z < B 6 t)) ∧ u = (ad, G)) D mCl ad G sz) 0 0 (mA ad G sz) := by
  refine Met.ofW (cc := b_M_isBlunt) (maxL := 2) (ret := (some .boolean)) (by decide) rfl ?_
  intro p e s m args below meth c s₁ BB hml hv
  obtain ⟨rfl, hsz, hw0, hC⟩ := hv
  have hx := BB.exec
  have hb := BB.bytes
  have hr := BB.returns
  have hts := atoms_spec (ws := .code y_M_isBlunt b_M_isBlunt 2 (some .boolean) :: mBig) BB.pre
  have hT : ∀ w ∈ mBig, w.before _ s = true := fun w h => hts w (List.mem_cons_of_mem _ h)
  have hown : s.vm.findClass "EdgeWearModel" = some m.cls := findClass_of_methodNamed BB.named
  have hlocks := BB.notSynchronized
  subst hsz
  have hm := mS.start hw0
  have hA : ∀ q : Nat, s.heap.size ≤ q → mA ad G s.heap.size q := fun q h => Or.inr h
  have hl := lv_entry ([.ref (ad 1000), .int p0]) (n := 2) (Nat.le_of_ble_eq_true rfl)
  rw [lg_entry_eq]
  generalize (lg_sl ([.ref (ad 1000), .int p0]) ++ List.replicate (2 - (lg_sl ([.ref (ad 1000), .int p0])).length) Slot.unset).toArray = ls at hl ⊢
  have hl : lv_has ls 2 [(0, .ref (ad 1000)), (1, .int p0)] := hl
  refine lv_aload_n hx hb d_M_isBlunt_0 rfl (lv_at hl 0 rfl) ?_
  refine m_get (v := .ref (ad 1006)) (C := R_M) (T := T_M) (N := 28) hx hb hT in_M hown hC.1 hm 1000 rfl ((congrFun hG 1000).trans gM_o) rfl 6 (by decide) (hT _ k_596) (fun _ h9 => h9) rfl d_M_isBlunt_1 ?_
  refine lv_iload_n hx hb d_M_isBlunt_4 rfl (lv_at hl 1 rfl) ?_
  refine m_lald (v := B 6 t) hx hb hC.1 hm 1006 rfl 1 ((congrFun hG 1006).trans gM_6) rfl (by rw [ep]; exact vp_in_nI (by omega) (by decide)) (by rw [ep, nI_clamp (by omega)]) d_M_isBlunt_5 ?_
  refine lv_aload_n hx hb d_M_isBlunt_6 rfl (lv_at hl 0 rfl) ?_
  refine m_get (v := .ref (ad 1012)) (C := R_M) (T := T_M) (N := 28) hx hb hT in_M hown hC.1 hm 1000 rfl ((congrFun hG 1000).trans gM_o) rfl 12 (by decide) (hT _ k_602) (fun _ h9 => h9) rfl d_M_isBlunt_7 ?_
  refine lv_aload_n hx hb d_M_isBlunt_10 rfl (lv_at hl 0 rfl) ?_
  refine m_get (v := .ref (ad 1003)) (C := R_M) (T := T_M) (N := 28) hx hb hT in_M hown hC.1 hm 1000 rfl ((congrFun hG 1000).trans gM_o) rfl 3 (by decide) (hT _ k_593) (fun _ h9 => h9) rfl d_M_isBlunt_11 ?_
  refine lv_iload_n hx hb d_M_isBlunt_14 rfl (lv_at hl 1 rfl) ?_
  refine m_iald (v := A 3 t) hx hb hC.1 hm 1003 rfl 0 ((congrFun hG 1003).trans gM_3) rfl (by rw [ep]; exact vp_in_nI (by omega) (by decide)) (by rw [ep, nI_clamp (by omega)]) d_M_isBlunt_15 ?_
  refine m_lald (v := B 12 z) hx hb hC.1 hm 1012 rfl 1 ((congrFun hG 1012).trans gM_12) rfl (by rw [hz]; exact vp_in_nI (by omega) (by decide)) (by rw [hz, nI_clamp (by omega)]) d_M_isBlunt_16 ?_
  refine W.lcmp hx hb d_M_isBlunt_17 ?_
  refine lv_if_le (tgt := 25) hx hb d_M_isBlunt_18 (by decide) (fun c_18 => ?_) (fun c_18 => ?_)
  · refine lv_iconst (v := 0) hx hb d_M_isBlunt_25 (by decide) ?_
    exact m_zret (v := 0) hx hb hr rfl hm (⟨bv0 ((lg_le _ _).mp c_18), rfl⟩) d_M_isBlunt_26 hlocks
  · refine lv_iconst (v := 1) hx hb d_M_isBlunt_21 (by decide) ?_
    refine lv_goto (tgt := 26) hx hb d_M_isBlunt_22 (by decide) ?_
    exact m_zret (v := 1) hx hb hr rfl hm (⟨bv1 (Classical.not_not.mp (fun q => c_18 ((lg_le _ _).mpr q))), rfl⟩) d_M_isBlunt_26 hlocks

set_option maxHeartbeats 4000000 in
set_option maxRecDepth 100000 in
theorem c_M_grind (l : Launch) (D : va_G) (dA : Nat → ClassId) (ad : Nat → Nat) (G : mG) (sz : Nat) (A : Nat → Nat → Int32) (B : Nat → Nat → Int64) (S : Nat → Int32) (sd : Int64) (G0 : mG) (hG : G = gM dA ad A B S sd G0) (tc : Nat) (hS : S 2 = nI tc) (ht : tc ≤ 12) (p0 p1 : Int32) : Met l y_M_grind (.code y_M_grind b_M_grind 3 (some .boolean) :: mBig) ({ frames := 1, cells := 0, slots := 0, locals := 25 }) (mPc [.ref (ad 1000), .int p0, .int p1] D mCl (mTys dA) mTx ad G sz) (mQi (fun (rv : Int32) (u : mU) => ((¬ (∃ i, i < tc ∧ p0 = nI i) ∧ u = (ad, gM dA ad A B (va_up S 0 1) sd G0)) ∨ ((∃ i, i < tc ∧ p0 = nI i) ∧ (p1 < 1 ∨ 1000000 < p1) ∧ u = (ad, gM dA ad A B (va_up S 0 2) sd G0)) ∨ ((∃ i, i < tc ∧ p0 = nI i ∧ ¬ A 7 i = 0) ∧ ¬ (p1 < 1 ∨ 1000000 < p1) ∧ u = (ad, gM dA ad A B (va_up S 0 3) sd G0)) ∨ (∃ i, i < tc ∧ p0 = nI i ∧ ¬ (p1 < 1 ∨ 1000000 < p1) ∧ A 7 i = 0 ∧ (if A 4 i - p1 < A 5 i then rv = 0 ∧ u = (ad, gM dA ad (va_up A 7 (upd (A 7) i 1)) B (va_up S 0 0) sd G0) else rv = 1 ∧ u = (ad, gM dA ad (va_up (va_up A 4 (upd (A 4) i (A 4 i - p1))) 10 (upd (A 10) i (A 10 i + 1))) (va_up B 6 (vp_updL (B 6) i 0)) (va_up S 0 0) sd G0))))) D mCl ad G sz) 0 0 (mA ad G sz) := by
  refine Met.ofW (cc := b_M_grind) (maxL := 3) (ret := (some .boolean)) (by decide) rfl ?_
  intro p e s m args below meth c s₁ BB hml hv
  obtain ⟨rfl, hsz, hw0, hC⟩ := hv
  have hx := BB.exec
  have hb := BB.bytes
  have hr := BB.returns
  have hts := atoms_spec (ws := .code y_M_grind b_M_grind 3 (some .boolean) :: mBig) BB.pre
  have hT : ∀ w ∈ mBig, w.before _ s = true := fun w h => hts w (List.mem_cons_of_mem _ h)
  have hown : s.vm.findClass "EdgeWearModel" = some m.cls := findClass_of_methodNamed BB.named
  have hlocks := BB.notSynchronized
  subst hsz
  have hm := mS.start hw0
  have hA : ∀ q : Nat, s.heap.size ≤ q → mA ad G s.heap.size q := fun q h => Or.inr h
  have hl := lv_entry ([.ref (ad 1000), .int p0, .int p1]) (n := 3) (Nat.le_of_ble_eq_true rfl)
  rw [lg_entry_eq]
  generalize (lg_sl ([.ref (ad 1000), .int p0, .int p1]) ++ List.replicate (3 - (lg_sl ([.ref (ad 1000), .int p0, .int p1])).length) Slot.unset).toArray = ls at hl ⊢
  have hl : lv_has ls 3 [(0, .ref (ad 1000)), (1, .int p0), (2, .int p1)] := hl
  refine lv_aload_n hx hb d_M_grind_0 rfl (lv_at hl 0 rfl) ?_
  refine lv_aload_n hx hb d_M_grind_1 rfl (lv_at hl 0 rfl) ?_
  refine lv_iload_n hx hb d_M_grind_2 rfl (lv_at hl 1 rfl) ?_
  refine m_roi (m_runV (As := [.int p0]) (rest := [.ref (ad 1000)]) ⟨hx, hb, hml, hown, hts⟩ (c_M_noTool l D dA ad G s.heap.size A B S sd G0 hG tc hS ht p0) (cwV 1 hts (gV k_708 k_705 k_707 ks_7 k_4) rfl rfl rfl (by decide +kernel) ⟨Nat.le_of_ble_eq_true rfl, Nat.le_of_ble_eq_true rfl⟩) hm hA hC 1000 rfl ((congrFun hG 1000).trans gM_o) rfl rfl rfl hl.1 rfl (Nat.le_of_ble_eq_true rfl) d_M_grind_3 ⟨Nat.le_of_ble_eq_true rfl, Nat.le_of_ble_eq_true rfl⟩) hm hA (fun r_1 H locs w_2 hm => ?_)
  refine lv_if_eq (tgt := 13) hx hb d_M_grind_6 (by decide) (fun c_6 => ?_) (fun c_6 => ?_)
  · refine lv_iload_n hx hb d_M_grind_13 rfl (lv_at hl 2 rfl) ?_
    refine lv_i2l hx hb d_M_grind_14 rfl ?_
    refine lv_topl (fun x_3 ex_3 => ?_)
    refine lv_lconst (v := 1) hx hb d_M_grind_15 (by decide) ?_
    refine lv_ldc2 (v := 1000000) hx hb hown (hT _ k_589) d_M_grind_16 ?_
    refine m_roi (m_runS (As := [.long x_3, .long 1, .long 1000000]) (rest := [.ref (ad 1000)]) ⟨hx, hb, hml, hown, hts⟩ (c_M_isIn l D dA ad G H.size x_3 1 1000000) (va_cwS 3 hts (gS k_690 k_688 k_689 k_4) rfl rfl rfl (by decide +kernel) ⟨Nat.le_of_ble_eq_true rfl, Nat.le_of_ble_eq_true rfl⟩) hm hA hC rfl hl.1 rfl (Nat.le_of_ble_eq_true rfl) d_M_grind_19 ⟨Nat.le_of_ble_eq_true rfl, Nat.le_of_ble_eq_true rfl⟩) hm hA (fun r_4 H locs w_5 hm => ?_)
    refine lv_if_ne (tgt := 29) hx hb d_M_grind_22 (by decide) (fun c_22 => ?_) (fun c_22 => ?_)
    · obtain ⟨t, ht2, ep⟩ := Classical.not_not.mp (bv_eq w_2 c_6)
      refine lv_aload_n hx hb d_M_grind_29 rfl (lv_at hl 0 rfl) ?_
      refine m_get (v := .ref (ad 1007)) (C := R_M) (T := T_M) (N := 28) hx hb hT in_M hown hC.1 hm 1000 rfl ((congrFun hG 1000).trans gM_o) rfl 7 (by decide) (hT _ k_597) (fun _ h9 => h9) rfl d_M_grind_30 ?_
      refine lv_iload_n hx hb d_M_grind_33 rfl (lv_at hl 1 rfl) ?_
      refine m_zald (v := A 7 t) hx hb hC.1 hm 1007 rfl 2 ((congrFun hG 1007).trans gM_7) rfl (by rw [ep]; exact vp_in_nI (by omega) (by decide)) (by rw [ep, nI_clamp (by omega)]) d_M_grind_34 ?_
      refine lv_if_eq (tgt := 42) hx hb d_M_grind_35 (by decide) (fun c_35 => ?_) (fun c_35 => ?_)
      · refine lv_iconst (v := 0) hx hb d_M_grind_42 (by decide) ?_
        refine m_put (v := .int 0) (ty := .int) (C := R_M) (T := T_M) (N := 28) hx hb hT in_M t_M tok_M nm_M hown hC.1 hm 1000 rfl ((congrFun hG 1000).trans gM_o) rfl 0 (by decide) (hT _ k_590) (fun _ h9 => h9) rfl (by decide +kernel) rfl rfl (Nat.le_of_ble_eq_true rfl) d_M_grind_43 (fun H locs hm => ?_)
        obtain ⟨G_6, eG_6⟩ : ∃ z : mG, z = va_up G 1000 (some (.inr (6, [.int 0, .long sd, .int (S 2), .ref (ad 1003), .ref (ad 1004), .ref (ad 1005), .ref (ad 1006), .ref (ad 1007), .ref (ad 1008), .ref (ad 1009), .ref (ad 1010), .ref (ad 1011), .ref (ad 1012), .ref (ad 1013), .ref (ad 1014), .ref (ad 1015), .ref (ad 1016), .int (S 17), .int (S 18), .int (S 19), .int (S 20), .ref (ad 1021), .ref (ad 1022), .ref (ad 1023), .ref (ad 1024), .ref (ad 1025), .int (S 26), .int (S 27)]))) := ⟨_, rfl⟩
        have hm : mS D mCl (mA ad G s.heap.size) s.heap ad G_6 H locs := by rw [eG_6]; exact hm
        have g_7 : G_6 1000 = some (.inr (6, [.int 0, .long sd, .int (S 2), .ref (ad 1003), .ref (ad 1004), .ref (ad 1005), .ref (ad 1006), .ref (ad 1007), .ref (ad 1008), .ref (ad 1009), .ref (ad 1010), .ref (ad 1011), .ref (ad 1012), .ref (ad 1013), .ref (ad 1014), .ref (ad 1015), .ref (ad 1016), .int (S 17), .int (S 18), .int (S 19), .int (S 20), .ref (ad 1021), .ref (ad 1022), .ref (ad 1023), .ref (ad 1024), .ref (ad 1025), .int (S 26), .int (S 27)])) := by rw [eG_6, va_up_self]
        have g_8 := (congrFun eG_6 1003).trans ((va_up_ne _ _ (by decide)).trans ((congrFun hG 1003).trans gM_3))
        have g_9 := (congrFun eG_6 1004).trans ((va_up_ne _ _ (by decide)).trans ((congrFun hG 1004).trans gM_4))
        have g_10 := (congrFun eG_6 1005).trans ((va_up_ne _ _ (by decide)).trans ((congrFun hG 1005).trans gM_5))
        have g_11 := (congrFun eG_6 1006).trans ((va_up_ne _ _ (by decide)).trans ((congrFun hG 1006).trans gM_6))
        have g_12 := (congrFun eG_6 1007).trans ((va_up_ne _ _ (by decide)).trans ((congrFun hG 1007).trans gM_7))
        have g_13 := (congrFun eG_6 1008).trans ((va_up_ne _ _ (by decide)).trans ((congrFun hG 1008).trans gM_8))
        have g_14 := (congrFun eG_6 1009).trans ((va_up_ne _ _ (by decide)).trans ((congrFun hG 1009).trans gM_9))
        have g_15 := (congrFun eG_6 1010).trans ((va_up_ne _ _ (by decide)).trans ((congrFun hG 1010).trans gM_10))
        have g_16 := (congrFun eG_6 1011).trans ((va_up_ne _ _ (by decide)).trans ((congrFun hG 1011).trans gM_11))
        have g_17 := (congrFun eG_6 1012).trans ((va_up_ne _ _ (by decide)).trans ((congrFun hG 1012).trans gM_12))
        have g_18 := (congrFun eG_6 1013).trans ((va_up_ne _ _ (by decide)).trans ((congrFun hG 1013).trans gM_13))
        have g_19 := (congrFun eG_6 1014).trans ((va_up_ne _ _ (by decide)).trans ((congrFun hG 1014).trans gM_14))
        have g_20 := (congrFun eG_6 1015).trans ((va_up_ne _ _ (by decide)).trans ((congrFun hG 1015).trans gM_15))
        have g_21 := (congrFun eG_6 1016).trans ((va_up_ne _ _ (by decide)).trans ((congrFun hG 1016).trans gM_16))
        have g_22 := (congrFun eG_6 1021).trans ((va_up_ne _ _ (by decide)).trans ((congrFun hG 1021).trans gM_21))
        have g_23 := (congrFun eG_6 1022).trans ((va_up_ne _ _ (by decide)).trans ((congrFun hG 1022).trans gM_22))
        have g_24 := (congrFun eG_6 1023).trans ((va_up_ne _ _ (by decide)).trans ((congrFun hG 1023).trans gM_23))
        have g_25 := (congrFun eG_6 1024).trans ((va_up_ne _ _ (by decide)).trans ((congrFun hG 1024).trans gM_24))
        have g_26 := (congrFun eG_6 1025).trans ((va_up_ne _ _ (by decide)).trans ((congrFun hG 1025).trans gM_25))
        have hG : G_6 = gM dA ad A B (va_up S 0 0) sd G0 := by rw [eG_6, hG]; exact gM_uo (va_up S 0 0)
        refine lv_aload_n hx hb d_M_grind_46 rfl (lv_at hl 0 rfl) ?_
        refine m_get (v := .int 0) (C := R_M) (T := T_M) (N := 28) hx hb hT in_M hown hC.1 hm 1000 rfl g_7 rfl 0 (by decide) (hT _ k_590) (fun _ h9 => h9) rfl d_M_grind_47 ?_
        refine lv_if_le (tgt := 55) hx hb d_M_grind_50 (by decide) (fun _ => ?_) (fun c9 => absurd (by decide) c9)
        refine lv_aload_n hx hb d_M_grind_55 rfl (lv_at hl 0 rfl) ?_
        refine m_get (v := .ref (ad 1004)) (C := R_M) (T := T_M) (N := 28) hx hb hT in_M hown hC.1 hm 1000 rfl g_7 rfl 4 (by decide) (hT _ k_594) (fun _ h9 => h9) rfl d_M_grind_56 ?_
        refine lv_iload_n hx hb d_M_grind_59 rfl (lv_at hl 1 rfl) ?_
        refine m_iald (v := A 4 t) hx hb hC.1 hm 1004 rfl 0 g_9 rfl (by rw [ep]; exact vp_in_nI (by omega) (by decide)) (by rw [ep, nI_clamp (by omega)]) d_M_grind_60 ?_
        refine lv_iload_n hx hb d_M_grind_61 rfl (lv_at hl 2 rfl) ?_
        refine lv_isub hx hb d_M_grind_62 ?_
        refine lv_topi (fun x_27 ex_27 => ?_)
        refine lv_aload_n hx hb d_M_grind_63 rfl (lv_at hl 0 rfl) ?_
        refine m_get (v := .ref (ad 1005)) (C := R_M) (T := T_M) (N := 28) hx hb hT in_M hown hC.1 hm 1000 rfl g_7 rfl 5 (by decide) (hT _ k_595) (fun _ h9 => h9) rfl d_M_grind_64 ?_
        refine lv_iload_n hx hb d_M_grind_67 rfl (lv_at hl 1 rfl) ?_
        refine m_iald (v := A 5 t) hx hb hC.1 hm 1005 rfl 0 g_10 rfl (by rw [ep]; exact vp_in_nI (by omega) (by decide)) (by rw [ep, nI_clamp (by omega)]) d_M_grind_68 ?_
        refine lv_icmp_ge (tgt := 81) hx hb d_M_grind_69 (by decide) (fun c_69 => ?_) (fun c_69 => ?_)
        · refine lv_aload_n hx hb d_M_grind_81 rfl (lv_at hl 0 rfl) ?_
          refine m_get (v := .ref (ad 1004)) (C := R_M) (T := T_M) (N := 28) hx hb hT in_M hown hC.1 hm 1000 rfl g_7 rfl 4 (by decide) (hT _ k_594) (fun _ h9 => h9) rfl d_M_grind_82 ?_
          refine lv_iload_n hx hb d_M_grind_85 rfl (lv_at hl 1 rfl) ?_
          refine lv_aload_n hx hb d_M_grind_86 rfl (lv_at hl 0 rfl) ?_
          refine m_get (v := .ref (ad 1004)) (C := R_M) (T := T_M) (N := 28) hx hb hT in_M hown hC.1 hm 1000 rfl g_7 rfl 4 (by decide) (hT _ k_594) (fun _ h9 => h9) rfl d_M_grind_87 ?_
          refine lv_iload_n hx hb d_M_grind_90 rfl (lv_at hl 1 rfl) ?_
          refine m_iald (v := A 4 t) hx hb hC.1 hm 1004 rfl 0 g_9 rfl (by rw [ep]; exact vp_in_nI (by omega) (by decide)) (by rw [ep, nI_clamp (by omega)]) d_M_grind_91 ?_
          refine lv_iload_n hx hb d_M_grind_92 rfl (lv_at hl 2 rfl) ?_
          refine lv_isub hx hb d_M_grind_93 ?_
          refine lv_topi (fun x_28 ex_28 => ?_)
          refine m_iast hx hb hC.1 hm 1004 rfl 0 g_9 rfl (by rw [ep]; exact vp_in_nI (by omega) (by decide)) d_M_grind_94 (fun H locs hm => ?_)
          rw [show (p0).toNatClampNeg = t by rw [ep, nI_clamp (by omega)]] at hm
          obtain ⟨G_29, eG_29⟩ : ∃ z : mG, z = va_up G_6 1004 (some (.inl ((dA 0), 12, .inl (upd (A 4) t x_28)))) := ⟨_, rfl⟩
          have hm : mS D mCl (mA ad G s.heap.size) s.heap ad G_29 H locs := by rw [eG_29]; exact hm
          have g_30 := (congrFun eG_29 1000).trans ((va_up_ne _ _ (by decide)).trans g_7)
          have g_31 := (congrFun eG_29 1003).trans ((va_up_ne _ _ (by decide)).trans g_8)
          have g_32 : G_29 1004 = some (.inl ((dA 0), 12, .inl (upd (A 4) t x_28))) := by rw [eG_29, va_up_self]
          have g_33 := (congrFun eG_29 1005).trans ((va_up_ne _ _ (by decide)).trans g_10)
          have g_34 := (congrFun eG_29 1006).trans ((va_up_ne _ _ (by decide)).trans g_11)
          have g_35 := (congrFun eG_29 1007).trans ((va_up_ne _ _ (by decide)).trans g_12)
          have g_36 := (congrFun eG_29 1008).trans ((va_up_ne _ _ (by decide)).trans g_13)
          have g_37 := (congrFun eG_29 1009).trans ((va_up_ne _ _ (by decide)).trans g_14)
          have g_38 := (congrFun eG_29 1010).trans ((va_up_ne _ _ (by decide)).trans g_15)
          have g_39 := (congrFun eG_29 1011).trans ((va_up_ne _ _ (by decide)).trans g_16)
          have g_40 := (congrFun eG_29 1012).trans ((va_up_ne _ _ (by decide)).trans g_17)
          have g_41 := (congrFun eG_29 1013).trans ((va_up_ne _ _ (by decide)).trans g_18)
          have g_42 := (congrFun eG_29 1014).trans ((va_up_ne _ _ (by decide)).trans g_19)
          have g_43 := (congrFun eG_29 1015).trans ((va_up_ne _ _ (by decide)).trans g_20)
          have g_44 := (congrFun eG_29 1016).trans ((va_up_ne _ _ (by decide)).trans g_21)
          have g_45 := (congrFun eG_29 1021).trans ((va_up_ne _ _ (by decide)).trans g_22)
          have g_46 := (congrFun eG_29 1022).trans ((va_up_ne _ _ (by decide)).trans g_23)
          have g_47 := (congrFun eG_29 1023).trans ((va_up_ne _ _ (by decide)).trans g_24)
          have g_48 := (congrFun eG_29 1024).trans ((va_up_ne _ _ (by decide)).trans g_25)
          have g_49 := (congrFun eG_29 1025).trans ((va_up_ne _ _ (by decide)).trans g_26)
          have hG : G_29 = gM dA ad (va_up A 4 (upd (A 4) t x_28)) B (va_up S 0 0) sd G0 := by rw [eG_29, hG]; exact gM_u4 _
          refine lv_aload_n hx hb d_M_grind_95 rfl (lv_at hl 0 rfl) ?_
          refine m_get (v := .ref (ad 1006)) (C := R_M) (T := T_M) (N := 28) hx hb hT in_M hown hC.1 hm 1000 rfl g_30 rfl 6 (by decide) (hT _ k_596) (fun _ h9 => h9) rfl d_M_grind_96 ?_
          refine lv_iload_n hx hb d_M_grind_99 rfl (lv_at hl 1 rfl) ?_
          refine lv_lconst (v := 0) hx hb d_M_grind_100 (by decide) ?_
          refine m_last hx hb hC.1 hm 1006 rfl 1 g_34 rfl (by rw [ep]; exact vp_in_nI (by omega) (by decide)) d_M_grind_101 (fun H locs hm => ?_)
          rw [show (p0).toNatClampNeg = t by rw [ep, nI_clamp (by omega)]] at hm
          obtain ⟨G_50, eG_50⟩ : ∃ z : mG, z = va_up G_29 1006 (some (.inl ((dA 1), 12, .inr (.inl (vp_updL (B 6) t 0))))) := ⟨_, rfl⟩
          have hm : mS D mCl (mA ad G s.heap.size) s.heap ad G_50 H locs := by rw [eG_50]; exact hm
          have g_51 := (congrFun eG_50 1000).trans ((va_up_ne _ _ (by decide)).trans g_30)
          have g_52 := (congrFun eG_50 1003).trans ((va_up_ne _ _ (by decide)).trans g_31)
          have g_53 := (congrFun eG_50 1004).trans ((va_up_ne _ _ (by decide)).trans g_32)
          have g_54 := (congrFun eG_50 1005).trans ((va_up_ne _ _ (by decide)).trans g_33)
          have g_55 : G_50 1006 = some (.inl ((dA 1), 12, .inr (.inl (vp_updL (B 6) t 0)))) := by rw [eG_50, va_up_self]
          have g_56 := (congrFun eG_50 1007).trans ((va_up_ne _ _ (by decide)).trans g_35)
          have g_57 := (congrFun eG_50 1008).trans ((va_up_ne _ _ (by decide)).trans g_36)
          have g_58 := (congrFun eG_50 1009).trans ((va_up_ne _ _ (by decide)).trans g_37)
          have g_59 := (congrFun eG_50 1010).trans ((va_up_ne _ _ (by decide)).trans g_38)
          have g_60 := (congrFun eG_50 1011).trans ((va_up_ne _ _ (by decide)).trans g_39)
          have g_61 := (congrFun eG_50 1012).trans ((va_up_ne _ _ (by decide)).trans g_40)
          have g_62 := (congrFun eG_50 1013).trans ((va_up_ne _ _ (by decide)).trans g_41)
          have g_63 := (congrFun eG_50 1014).trans ((va_up_ne _ _ (by decide)).trans g_42)
          have g_64 := (congrFun eG_50 1015).trans ((va_up_ne _ _ (by decide)).trans g_43)
          have g_65 := (congrFun eG_50 1016).trans ((va_up_ne _ _ (by decide)).trans g_44)
          have g_66 := (congrFun eG_50 1021).trans ((va_up_ne _ _ (by decide)).trans g_45)
          have g_67 := (congrFun eG_50 1022).trans ((va_up_ne _ _ (by decide)).trans g_46)
          have g_68 := (congrFun eG_50 1023).trans ((va_up_ne _ _ (by decide)).trans g_47)
          have g_69 := (congrFun eG_50 1024).trans ((va_up_ne _ _ (by decide)).trans g_48)
          have g_70 := (congrFun eG_50 1025).trans ((va_up_ne _ _ (by decide)).trans g_49)
          have hG : G_50 = gM dA ad (va_up A 4 (upd (A 4) t x_28)) (va_up B 6 (vp_updL (B 6) t 0)) (va_up S 0 0) sd G0 := by rw [eG_50, hG]; exact gM_u6 _
          refine lv_aload_n hx hb d_M_grind_102 rfl (lv_at hl 0 rfl) ?_
          refine m_get (v := .ref (ad 1010)) (C := R_M) (T := T_M) (N := 28) hx hb hT in_M hown hC.1 hm 1000 rfl g_51 rfl 10 (by decide) (hT _ k_600) (fun _ h9 => h9) rfl d_M_grind_103 ?_
          refine lv_iload_n hx hb d_M_grind_106 rfl (lv_at hl 1 rfl) ?_
          refine lv_dup2_11 hx hb d_M_grind_107 rfl rfl ?_
          refine m_iald (v := A 10 t) hx hb hC.1 hm 1010 rfl 0 g_59 rfl (by rw [ep]; exact vp_in_nI (by omega) (by decide)) (by rw [ep, nI_clamp (by omega)]) d_M_grind_108 ?_
          refine lv_iconst (v := 1) hx hb d_M_grind_109 (by decide) ?_
          refine lv_iadd hx hb d_M_grind_110 ?_
          refine lv_topi (fun x_71 ex_71 => ?_)
          refine m_iast hx hb hC.1 hm 1010 rfl 0 g_59 rfl (by rw [ep]; exact vp_in_nI (by omega) (by decide)) d_M_grind_111 (fun H locs hm => ?_)
          rw [show (p0).toNatClampNeg = t by rw [ep, nI_clamp (by omega)]] at hm
          obtain ⟨G_72, eG_72⟩ : ∃ z : mG, z = va_up G_50 1010 (some (.inl ((dA 0), 12, .inl (upd (A 10) t x_71)))) := ⟨_, rfl⟩
          have hm : mS D mCl (mA ad G s.heap.size) s.heap ad G_72 H locs := by rw [eG_72]; exact hm
          have g_73 := (congrFun eG_72 1000).trans ((va_up_ne _ _ (by decide)).trans g_51)
          have g_74 := (congrFun eG_72 1003).trans ((va_up_ne _ _ (by decide)).trans g_52)
          have g_75 := (congrFun eG_72 1004).trans ((va_up_ne _ _ (by decide)).trans g_53)
          have g_76 := (congrFun eG_72 1005).trans ((va_up_ne _ _ (by decide)).trans g_54)
          have g_77 := (congrFun eG_72 1006).trans ((va_up_ne _ _ (by decide)).trans g_55)
          have g_78 := (congrFun eG_72 1007).trans ((va_up_ne _ _ (by decide)).trans g_56)
          have g_79 := (congrFun eG_72 1008).trans ((va_up_ne _ _ (by decide)).trans g_57)
          have g_80 := (congrFun eG_72 1009).trans ((va_up_ne _ _ (by decide)).trans g_58)
          have g_81 : G_72 1010 = some (.inl ((dA 0), 12, .inl (upd (A 10) t x_71))) := by rw [eG_72, va_up_self]
          have g_82 := (congrFun eG_72 1011).trans ((va_up_ne _ _ (by decide)).trans g_60)
          have g_83 := (congrFun eG_72 1012).trans ((va_up_ne _ _ (by decide)).trans g_61)
          have g_84 := (congrFun eG_72 1013).trans ((va_up_ne _ _ (by decide)).trans g_62)
          have g_85 := (congrFun eG_72 1014).trans ((va_up_ne _ _ (by decide)).trans g_63)
          have g_86 := (congrFun eG_72 1015).trans ((va_up_ne _ _ (by decide)).trans g_64)
          have g_87 := (congrFun eG_72 1016).trans ((va_up_ne _ _ (by decide)).trans g_65)
          have g_88 := (congrFun eG_72 1021).trans ((va_up_ne _ _ (by decide)).trans g_66)
          have g_89 := (congrFun eG_72 1022).trans ((va_up_ne _ _ (by decide)).trans g_67)
          have g_90 := (congrFun eG_72 1023).trans ((va_up_ne _ _ (by decide)).trans g_68)
          have g_91 := (congrFun eG_72 1024).trans ((va_up_ne _ _ (by decide)).trans g_69)
          have g_92 := (congrFun eG_72 1025).trans ((va_up_ne _ _ (by decide)).trans g_70)
          have hG : G_72 = gM dA ad (va_up (va_up A 4 (upd (A 4) t x_28)) 10 (upd (A 10) t x_71)) (va_up B 6 (vp_updL (B 6) t 0)) (va_up S 0 0) sd G0 := by rw [eG_72, hG]; exact gM_u10 _
          refine lv_iconst (v := 1) hx hb d_M_grind_112 (by decide) ?_
          exact m_zret (v := 1) hx hb hr rfl hm (Or.inr (Or.inr (Or.inr (⟨t, ht2, ep, (inJ (p := p1) (lo := 1) (hi := 1000000) (a := 1) (b := 1000000) (by decide) (by decide)).mp (by have h9 := bv_ne w_5 c_22; rw [ex_3] at h9; exact h9), c_35, by
            rw [if_neg (by rw [← ex_27]; exact Int32.not_lt.mpr c_69)]
            exact ⟨rfl, by rw [hG, ex_71, ex_28]⟩⟩)))) d_M_grind_113 hlocks
        · refine lv_aload_n hx hb d_M_grind_72 rfl (lv_at hl 0 rfl) ?_
          refine m_get (v := .ref (ad 1007)) (C := R_M) (T := T_M) (N := 28) hx hb hT in_M hown hC.1 hm 1000 rfl g_7 rfl 7 (by decide) (hT _ k_597) (fun _ h9 => h9) rfl d_M_grind_73 ?_
          refine lv_iload_n hx hb d_M_grind_76 rfl (lv_at hl 1 rfl) ?_
          refine lv_iconst (v := 1) hx hb d_M_grind_77 (by decide) ?_
          refine m_zast hx hb hC.1 hm 1007 rfl 2 g_12 rfl (by rw [ep]; exact vp_in_nI (by omega) (by decide)) d_M_grind_78 (fun H locs hm => ?_)
          rw [show (p0).toNatClampNeg = t by rw [ep, nI_clamp (by omega)]] at hm
          obtain ⟨G_93, eG_93⟩ : ∃ z : mG, z = va_up G_6 1007 (some (.inl ((dA 2), 12, .inl (upd (A 7) t 1)))) := ⟨_, rfl⟩
          have hm : mS D mCl (mA ad G s.heap.size) s.heap ad G_93 H locs := by rw [eG_93]; exact hm
          have g_94 := (congrFun eG_93 1000).trans ((va_up_ne _ _ (by decide)).trans g_7)
          have g_95 := (congrFun eG_93 1003).trans ((va_up_ne _ _ (by decide)).trans g_8)
          have g_96 := (congrFun eG_93 1004).trans ((va_up_ne _ _ (by decide)).trans g_9)
          have g_97 := (congrFun eG_93 1005).trans ((va_up_ne _ _ (by decide)).trans g_10)
          have g_98 := (congrFun eG_93 1006).trans ((va_up_ne _ _ (by decide)).trans g_11)
          have g_99 : G_93 1007 = some (.inl ((dA 2), 12, .inl (upd (A 7) t 1))) := by rw [eG_93, va_up_self]
          have g_100 := (congrFun eG_93 1008).trans ((va_up_ne _ _ (by decide)).trans g_13)
          have g_101 := (congrFun eG_93 1009).trans ((va_up_ne _ _ (by decide)).trans g_14)
          have g_102 := (congrFun eG_93 1010).trans ((va_up_ne _ _ (by decide)).trans g_15)
          have g_103 := (congrFun eG_93 1011).trans ((va_up_ne _ _ (by decide)).trans g_16)
          have g_104 := (congrFun eG_93 1012).trans ((va_up_ne _ _ (by decide)).trans g_17)
          have g_105 := (congrFun eG_93 1013).trans ((va_up_ne _ _ (by decide)).trans g_18)
          have g_106 := (congrFun eG_93 1014).trans ((va_up_ne _ _ (by decide)).trans g_19)
          have g_107 := (congrFun eG_93 1015).trans ((va_up_ne _ _ (by decide)).trans g_20)
          have g_108 := (congrFun eG_93 1016).trans ((va_up_ne _ _ (by decide)).trans g_21)
          have g_109 := (congrFun eG_93 1021).trans ((va_up_ne _ _ (by decide)).trans g_22)
          have g_110 := (congrFun eG_93 1022).trans ((va_up_ne _ _ (by decide)).trans g_23)
          have g_111 := (congrFun eG_93 1023).trans ((va_up_ne _ _ (by decide)).trans g_24)
          have g_112 := (congrFun eG_93 1024).trans ((va_up_ne _ _ (by decide)).trans g_25)
          have g_113 := (congrFun eG_93 1025).trans ((va_up_ne _ _ (by decide)).trans g_26)
          have hG : G_93 = gM dA ad (va_up A 7 (upd (A 7) t 1)) B (va_up S 0 0) sd G0 := by rw [eG_93, hG]; exact gM_u7 _
          refine lv_iconst (v := 0) hx hb d_M_grind_79 (by decide) ?_
          exact m_zret (v := 0) hx hb hr rfl hm (Or.inr (Or.inr (Or.inr (⟨t, ht2, ep, (inJ (p := p1) (lo := 1) (hi := 1000000) (a := 1) (b := 1000000) (by decide) (by decide)).mp (by have h9 := bv_ne w_5 c_22; rw [ex_3] at h9; exact h9), c_35, by
            rw [if_pos (by rw [← ex_27]; exact Int32.not_le.mp c_69)]
            exact ⟨rfl, by rw [hG]⟩⟩)))) d_M_grind_80 hlocks
      · refine lv_iconst (v := 3) hx hb d_M_grind_38 (by decide) ?_
        refine lv_goto (tgt := 43) hx hb d_M_grind_39 (by decide) ?_
        refine m_put (v := .int 3) (ty := .int) (C := R_M) (T := T_M) (N := 28) hx hb hT in_M t_M tok_M nm_M hown hC.1 hm 1000 rfl ((congrFun hG 1000).trans gM_o) rfl 0 (by decide) (hT _ k_590) (fun _ h9 => h9) rfl (by decide +kernel) rfl rfl (Nat.le_of_ble_eq_true rfl) d_M_grind_43 (fun H locs hm => ?_)
        obtain ⟨G_114, eG_114⟩ : ∃ z : mG, z = va_up G 1000 (some (.inr (6, [.int 3, .long sd, .int (S 2), .ref (ad 1003), .ref (ad 1004), .ref (ad 1005), .ref (ad 1006), .ref (ad 1007), .ref (ad 1008), .ref (ad 1009), .ref (ad 1010), .ref (ad 1011), .ref (ad 1012), .ref (ad 1013), .ref (ad 1014), .ref (ad 1015), .ref (ad 1016), .int (S 17), .int (S 18), .int (S 19), .int (S 20), .ref (ad 1021), .ref (ad 1022), .ref (ad 1023), .ref (ad 1024), .ref (ad 1025), .int (S 26), .int (S 27)]))) := ⟨_, rfl⟩
        have hm : mS D mCl (mA ad G s.heap.size) s.heap ad G_114 H locs := by rw [eG_114]; exact hm
        have g_115 : G_114 1000 = some (.inr (6, [.int 3, .long sd, .int (S 2), .ref (ad 1003), .ref (ad 1004), .ref (ad 1005), .ref (ad 1006), .ref (ad 1007), .ref (ad 1008), .ref (ad 1009), .ref (ad 1010), .ref (ad 1011), .ref (ad 1012), .ref (ad 1013), .ref (ad 1014), .ref (ad 1015), .ref (ad 1016), .int (S 17), .int (S 18), .int (S 19), .int (S 20), .ref (ad 1021), .ref (ad 1022), .ref (ad 1023), .ref (ad 1024), .ref (ad 1025), .int (S 26), .int (S 27)])) := by rw [eG_114, va_up_self]
        have g_116 := (congrFun eG_114 1003).trans ((va_up_ne _ _ (by decide)).trans ((congrFun hG 1003).trans gM_3))
        have g_117 := (congrFun eG_114 1004).trans ((va_up_ne _ _ (by decide)).trans ((congrFun hG 1004).trans gM_4))
        have g_118 := (congrFun eG_114 1005).trans ((va_up_ne _ _ (by decide)).trans ((congrFun hG 1005).trans gM_5))
        have g_119 := (congrFun eG_114 1006).trans ((va_up_ne _ _ (by decide)).trans ((congrFun hG 1006).trans gM_6))
        have g_120 := (congrFun eG_114 1007).trans ((va_up_ne _ _ (by decide)).trans ((congrFun hG 1007).trans gM_7))
        have g_121 := (congrFun eG_114 1008).trans ((va_up_ne _ _ (by decide)).trans ((congrFun hG 1008).trans gM_8))
        have g_122 := (congrFun eG_114 1009).trans ((va_up_ne _ _ (by decide)).trans ((congrFun hG 1009).trans gM_9))
        have g_123 := (congrFun eG_114 1010).trans ((va_up_ne _ _ (by decide)).trans ((congrFun hG 1010).trans gM_10))
        have g_124 := (congrFun eG_114 1011).trans ((va_up_ne _ _ (by decide)).trans ((congrFun hG 1011).trans gM_11))
        have g_125 := (congrFun eG_114 1012).trans ((va_up_ne _ _ (by decide)).trans ((congrFun hG 1012).trans gM_12))
        have g_126 := (congrFun eG_114 1013).trans ((va_up_ne _ _ (by decide)).trans ((congrFun hG 1013).trans gM_13))
        have g_127 := (congrFun eG_114 1014).trans ((va_up_ne _ _ (by decide)).trans ((congrFun hG 1014).trans gM_14))
        have g_128 := (congrFun eG_114 1015).trans ((va_up_ne _ _ (by decide)).trans ((congrFun hG 1015).trans gM_15))
        have g_129 := (congrFun eG_114 1016).trans ((va_up_ne _ _ (by decide)).trans ((congrFun hG 1016).trans gM_16))
        have g_130 := (congrFun eG_114 1021).trans ((va_up_ne _ _ (by decide)).trans ((congrFun hG 1021).trans gM_21))
        have g_131 := (congrFun eG_114 1022).trans ((va_up_ne _ _ (by decide)).trans ((congrFun hG 1022).trans gM_22))
        have g_132 := (congrFun eG_114 1023).trans ((va_up_ne _ _ (by decide)).trans ((congrFun hG 1023).trans gM_23))
        have g_133 := (congrFun eG_114 1024).trans ((va_up_ne _ _ (by decide)).trans ((congrFun hG 1024).trans gM_24))
        have g_134 := (congrFun eG_114 1025).trans ((va_up_ne _ _ (by decide)).trans ((congrFun hG 1025).trans gM_25))
        have hG : G_114 = gM dA ad A B (va_up S 0 3) sd G0 := by rw [eG_114, hG]; exact gM_uo (va_up S 0 3)
        refine lv_aload_n hx hb d_M_grind_46 rfl (lv_at hl 0 rfl) ?_
        refine m_get (v := .int 3) (C := R_M) (T := T_M) (N := 28) hx hb hT in_M hown hC.1 hm 1000 rfl g_115 rfl 0 (by decide) (hT _ k_590) (fun _ h9 => h9) rfl d_M_grind_47 ?_
        refine lv_if_le (tgt := 55) hx hb d_M_grind_50 (by decide) (fun c9 => absurd c9 (by decide)) (fun _ => ?_)
        refine lv_iconst (v := 0) hx hb d_M_grind_53 (by decide) ?_
        exact m_zret (v := 0) hx hb hr rfl hm (Or.inr (Or.inr (Or.inl ⟨⟨t, ht2, ep, c_35⟩, (inJ (p := p1) (lo := 1) (hi := 1000000) (a := 1) (b := 1000000) (by decide) (by decide)).mp (by have h9 := bv_ne w_5 c_22; rw [ex_3] at h9; exact h9), by rw [hG]⟩))) d_M_grind_54 hlocks
    · refine lv_iconst (v := 2) hx hb d_M_grind_25 (by decide) ?_
      refine lv_goto (tgt := 43) hx hb d_M_grind_26 (by decide) ?_
      refine m_put (v := .int 2) (ty := .int) (C := R_M) (T := T_M) (N := 28) hx hb hT in_M t_M tok_M nm_M hown hC.1 hm 1000 rfl ((congrFun hG 1000).trans gM_o) rfl 0 (by decide) (hT _ k_590) (fun _ h9 => h9) rfl (by decide +kernel) rfl rfl (Nat.le_of_ble_eq_true rfl) d_M_grind_43 (fun H locs hm => ?_)
      obtain ⟨G_135, eG_135⟩ : ∃ z : mG, z = va_up G 1000 (some (.inr (6, [.int 2, .long sd, .int (S 2), .ref (ad 1003), .ref (ad 1004), .ref (ad 1005), .ref (ad 1006), .ref (ad 1007), .ref (ad 1008), .ref (ad 1009), .ref (ad 1010), .ref (ad 1011), .ref (ad 1012), .ref (ad 1013), .ref (ad 1014), .ref (ad 1015), .ref (ad 1016), .int (S 17), .int (S 18), .int (S 19), .int (S 20), .ref (ad 1021), .ref (ad 1022), .ref (ad 1023), .ref (ad 1024), .ref (ad 1025), .int (S 26), .int (S 27)]))) := ⟨_, rfl⟩
      have hm : mS D mCl (mA ad G s.heap.size) s.heap ad G_135 H locs := by rw [eG_135]; exact hm
      have g_136 : G_135 1000 = some (.inr (6, [.int 2, .long sd, .int (S 2), .ref (ad 1003), .ref (ad 1004), .ref (ad 1005), .ref (ad 1006), .ref (ad 1007), .ref (ad 1008), .ref (ad 1009), .ref (ad 1010), .ref (ad 1011), .ref (ad 1012), .ref (ad 1013), .ref (ad 1014), .ref (ad 1015), .ref (ad 1016), .int (S 17), .int (S 18), .int (S 19), .int (S 20), .ref (ad 1021), .ref (ad 1022), .ref (ad 1023), .ref (ad 1024), .ref (ad 1025), .int (S 26), .int (S 27)])) := by rw [eG_135, va_up_self]
      have g_137 := (congrFun eG_135 1003).trans ((va_up_ne _ _ (by decide)).trans ((congrFun hG 1003).trans gM_3))
      have g_138 := (congrFun eG_135 1004).trans ((va_up_ne _ _ (by decide)).trans ((congrFun hG 1004).trans gM_4))
      have g_139 := (congrFun eG_135 1005).trans ((va_up_ne _ _ (by decide)).trans ((congrFun hG 1005).trans gM_5))
      have g_140 := (congrFun eG_135 1006).trans ((va_up_ne _ _ (by decide)).trans ((congrFun hG 1006).trans gM_6))
      have g_141 := (congrFun eG_135 1007).trans ((va_up_ne _ _ (by decide)).trans ((congrFun hG 1007).trans gM_7))
      have g_142 := (congrFun eG_135 1008).trans ((va_up_ne _ _ (by decide)).trans ((congrFun hG 1008).trans gM_8))
      have g_143 := (congrFun eG_135 1009).trans ((va_up_ne _ _ (by decide)).trans ((congrFun hG 1009).trans gM_9))
      have g_144 := (congrFun eG_135 1010).trans ((va_up_ne _ _ (by decide)).trans ((congrFun hG 1010).trans gM_10))
      have g_145 := (congrFun eG_135 1011).trans ((va_up_ne _ _ (by decide)).trans ((congrFun hG 1011).trans gM_11))
      have g_146 := (congrFun eG_135 1012).trans ((va_up_ne _ _ (by decide)).trans ((congrFun hG 1012).trans gM_12))
      have g_147 := (congrFun eG_135 1013).trans ((va_up_ne _ _ (by decide)).trans ((congrFun hG 1013).trans gM_13))
      have g_148 := (congrFun eG_135 1014).trans ((va_up_ne _ _ (by decide)).trans ((congrFun hG 1014).trans gM_14))
      have g_149 := (congrFun eG_135 1015).trans ((va_up_ne _ _ (by decide)).trans ((congrFun hG 1015).trans gM_15))
      have g_150 := (congrFun eG_135 1016).trans ((va_up_ne _ _ (by decide)).trans ((congrFun hG 1016).trans gM_16))
      have g_151 := (congrFun eG_135 1021).trans ((va_up_ne _ _ (by decide)).trans ((congrFun hG 1021).trans gM_21))
      have g_152 := (congrFun eG_135 1022).trans ((va_up_ne _ _ (by decide)).trans ((congrFun hG 1022).trans gM_22))
      have g_153 := (congrFun eG_135 1023).trans ((va_up_ne _ _ (by decide)).trans ((congrFun hG 1023).trans gM_23))
      have g_154 := (congrFun eG_135 1024).trans ((va_up_ne _ _ (by decide)).trans ((congrFun hG 1024).trans gM_24))
      have g_155 := (congrFun eG_135 1025).trans ((va_up_ne _ _ (by decide)).trans ((congrFun hG 1025).trans gM_25))
      have hG : G_135 = gM dA ad A B (va_up S 0 2) sd G0 := by rw [eG_135, hG]; exact gM_uo (va_up S 0 2)
      refine lv_aload_n hx hb d_M_grind_46 rfl (lv_at hl 0 rfl) ?_
      refine m_get (v := .int 2) (C := R_M) (T := T_M) (N := 28) hx hb hT in_M hown hC.1 hm 1000 rfl g_136 rfl 0 (by decide) (hT _ k_590) (fun _ h9 => h9) rfl d_M_grind_47 ?_
      refine lv_if_le (tgt := 55) hx hb d_M_grind_50 (by decide) (fun c9 => absurd c9 (by decide)) (fun _ => ?_)
      refine lv_iconst (v := 0) hx hb d_M_grind_53 (by decide) ?_
      exact m_zret (v := 0) hx hb hr rfl hm (Or.inr (Or.inl ⟨Classical.not_not.mp (bv_eq w_2 c_6), (Classical.not_not.mp (fun q => bv_eq w_5 c_22 (by rw [ex_3]; exact (inJ (p := p1) (lo := 1) (hi := 1000000) (a := 1) (b := 1000000) (by decide) (by decide)).mpr q))), by rw [hG]⟩)) d_M_grind_54 hlocks
  · refine lv_iconst (v := 1) hx hb d_M_grind_9 (by decide) ?_
    refine lv_goto (tgt := 43) hx hb d_M_grind_10 (by decide) ?_
    refine m_put (v := .int 1) (ty := .int) (C := R_M) (T := T_M) (N := 28) hx hb hT in_M t_M tok_M nm_M hown hC.1 hm 1000 rfl ((congrFun hG 1000).trans gM_o) rfl 0 (by decide) (hT _ k_590) (fun _ h9 => h9) rfl (by decide +kernel) rfl rfl (Nat.le_of_ble_eq_true rfl) d_M_grind_43 (fun H locs hm => ?_)
    obtain ⟨G_156, eG_156⟩ : ∃ z : mG, z = va_up G 1000 (some (.inr (6, [.int 1, .long sd, .int (S 2), .ref (ad 1003), .ref (ad 1004), .ref (ad 1005), .ref (ad 1006), .ref (ad 1007), .ref (ad 1008), .ref (ad 1009), .ref (ad 1010), .ref (ad 1011), .ref (ad 1012), .ref (ad 1013), .ref (ad 1014), .ref (ad 1015), .ref (ad 1016), .int (S 17), .int (S 18), .int (S 19), .int (S 20), .ref (ad 1021), .ref (ad 1022), .ref (ad 1023), .ref (ad 1024), .ref (ad 1025), .int (S 26), .int (S 27)]))) := ⟨_, rfl⟩
    have hm : mS D mCl (mA ad G s.heap.size) s.heap ad G_156 H locs := by rw [eG_156]; exact hm
    have g_157 : G_156 1000 = some (.inr (6, [.int 1, .long sd, .int (S 2), .ref (ad 1003), .ref (ad 1004), .ref (ad 1005), .ref (ad 1006), .ref (ad 1007), .ref (ad 1008), .ref (ad 1009), .ref (ad 1010), .ref (ad 1011), .ref (ad 1012), .ref (ad 1013), .ref (ad 1014), .ref (ad 1015), .ref (ad 1016), .int (S 17), .int (S 18), .int (S 19), .int (S 20), .ref (ad 1021), .ref (ad 1022), .ref (ad 1023), .ref (ad 1024), .ref (ad 1025), .int (S 26), .int (S 27)])) := by rw [eG_156, va_up_self]
    have g_158 := (congrFun eG_156 1003).trans ((va_up_ne _ _ (by decide)).trans ((congrFun hG 1003).trans gM_3))
    have g_159 := (congrFun eG_156 1004).trans ((va_up_ne _ _ (by decide)).trans ((congrFun hG 1004).trans gM_4))
    have g_160 := (congrFun eG_156 1005).trans ((va_up_ne _ _ (by decide)).trans ((congrFun hG 1005).trans gM_5))
    have g_161 := (congrFun eG_156 1006).trans ((va_up_ne _ _ (by decide)).trans ((congrFun hG 1006).trans gM_6))
    have g_162 := (congrFun eG_156 1007).trans ((va_up_ne _ _ (by decide)).trans ((congrFun hG 1007).trans gM_7))
    have g_163 := (congrFun eG_156 1008).trans ((va_up_ne _ _ (by decide)).trans ((congrFun hG 1008).trans gM_8))
    have g_164 := (congrFun eG_156 1009).trans ((va_up_ne _ _ (by decide)).trans ((congrFun hG 1009).trans gM_9))
    have g_165 := (congrFun eG_156 1010).trans ((va_up_ne _ _ (by decide)).trans ((congrFun hG 1010).trans gM_10))
    have g_166 := (congrFun eG_156 1011).trans ((va_up_ne _ _ (by decide)).trans ((congrFun hG 1011).trans gM_11))
    have g_167 := (congrFun eG_156 1012).trans ((va_up_ne _ _ (by decide)).trans ((congrFun hG 1012).trans gM_12))
    have g_168 := (congrFun eG_156 1013).trans ((va_up_ne _ _ (by decide)).trans ((congrFun hG 1013).trans gM_13))
    have g_169 := (congrFun eG_156 1014).trans ((va_up_ne _ _ (by decide)).trans ((congrFun hG 1014).trans gM_14))
    have g_170 := (congrFun eG_156 1015).trans ((va_up_ne _ _ (by decide)).trans ((congrFun hG 1015).trans gM_15))
    have g_171 := (congrFun eG_156 1016).trans ((va_up_ne _ _ (by decide)).trans ((congrFun hG 1016).trans gM_16))
    have g_172 := (congrFun eG_156 1021).trans ((va_up_ne _ _ (by decide)).trans ((congrFun hG 1021).trans gM_21))
    have g_173 := (congrFun eG_156 1022).trans ((va_up_ne _ _ (by decide)).trans ((congrFun hG 1022).trans gM_22))
    have g_174 := (congrFun eG_156 1023).trans ((va_up_ne _ _ (by decide)).trans ((congrFun hG 1023).trans gM_23))
    have g_175 := (congrFun eG_156 1024).trans ((va_up_ne _ _ (by decide)).trans ((congrFun hG 1024).trans gM_24))
    have g_176 := (congrFun eG_156 1025).trans ((va_up_ne _ _ (by decide)).trans ((congrFun hG 1025).trans gM_25))
    have hG : G_156 = gM dA ad A B (va_up S 0 1) sd G0 := by rw [eG_156, hG]; exact gM_uo (va_up S 0 1)
    refine lv_aload_n hx hb d_M_grind_46 rfl (lv_at hl 0 rfl) ?_
    refine m_get (v := .int 1) (C := R_M) (T := T_M) (N := 28) hx hb hT in_M hown hC.1 hm 1000 rfl g_157 rfl 0 (by decide) (hT _ k_590) (fun _ h9 => h9) rfl d_M_grind_47 ?_
    refine lv_if_le (tgt := 55) hx hb d_M_grind_50 (by decide) (fun c9 => absurd c9 (by decide)) (fun _ => ?_)
    refine lv_iconst (v := 0) hx hb d_M_grind_53 (by decide) ?_
    exact m_zret (v := 0) hx hb hr rfl hm (Or.inl ⟨bv_ne w_2 c_6, by rw [hG]⟩) d_M_grind_54 hlocks
