set_option maxHeartbeats 4000000 in
set_option maxRecDepth 100000 in
theorem c_M_chip (l : Launch) (D : va_G) (dA : Nat → ClassId) (ad : Nat → Nat) (G : mG) (sz : Nat) (A : Nat → Nat → Int32) (B : Nat → Nat → Int64) (S : Nat → Int32) (sd : Int64) (G0 : mG) (hG : G = gM dA ad A B S sd G0) (p0 p1 p2 p3 : Int32) : Met l y_M_chip (.code y_M_chip b_M_chip 16 (some .int) :: mBig) ({ frames := 1, cells := 0, slots := 0, locals := 25 }) (mPc [.ref (ad 1000), .int p0, .int p1, .int p2, .int p3] D mCl (mTys dA) mTx ad G sz) (mQi (fun (rv : Int32) (u : mU) => ((¬ (p3 = 0 ∨ p3 = 1) ∧ u = (ad, gM dA ad A B (va_up S 0 1) sd G0)) ∨ ((p3 = 0 ∨ p3 = 1) ∧ (p0 < 0 ∨ 1000000 < p0 ∨ p2 < 1 ∨ 1000 < p2 ∨ p1 < 0 ∨ p2 < p1) ∧ u = (ad, gM dA ad A B (va_up S 0 2) sd G0)) ∨ ((p3 = 0 ∨ p3 = 1) ∧ ¬ (p0 < 0 ∨ 1000000 < p0 ∨ p2 < 1 ∨ 1000 < p2 ∨ p1 < 0 ∨ p2 < p1) ∧ ∃ a d w x : Nat, p0 = nI a ∧ p1 = nI d ∧ p2 = nI w ∧ a ≤ 1000000 ∧ 1 ≤ w ∧ w ≤ 1000 ∧ d ≤ w ∧ x ≤ 1000000 ∧ x * x * (w * w) ≤ 4 * a * a * d * (w - d) ∧ 4 * a * a * d * (w - d) < (x + 1) * (x + 1) * (w * w) ∧ rv = nI (if p3 = 0 ∨ x * x * (w * w) = 4 * a * a * d * (w - d) then x else x + 1) ∧ u = (ad, gM dA ad A B (va_up S 0 0) sd G0)))) D mCl ad G sz) 0 0 (mA ad G sz) := by
  refine Met.ofW (cc := b_M_chip) (maxL := 16) (ret := (some .int)) (by decide) rfl ?_
  intro p e s m args below meth c s₁ BB hml hv
  obtain ⟨rfl, hsz, hw0, hC⟩ := hv
  have hx := BB.exec
  have hb := BB.bytes
  have hr := BB.returns
  have hts := atoms_spec (ws := .code y_M_chip b_M_chip 16 (some .int) :: mBig) BB.pre
  have hT : ∀ w ∈ mBig, w.before _ s = true := fun w h => hts w (List.mem_cons_of_mem _ h)
  have hown : s.vm.findClass "EdgeWearModel" = some m.cls := findClass_of_methodNamed BB.named
  have hlocks := BB.notSynchronized
  subst hsz
  have hm := mS.start hw0
  have hA : ∀ q : Nat, s.heap.size ≤ q → mA ad G s.heap.size q := fun q h => Or.inr h
  have hl := lv_entry ([.ref (ad 1000), .int p0, .int p1, .int p2, .int p3]) (n := 16) (Nat.le_of_ble_eq_true rfl)
  rw [lg_entry_eq]
  generalize (lg_sl ([.ref (ad 1000), .int p0, .int p1, .int p2, .int p3]) ++ List.replicate (16 - (lg_sl ([.ref (ad 1000), .int p0, .int p1, .int p2, .int p3])).length) Slot.unset).toArray = ls at hl ⊢
  have hl : lv_has ls 16 [(0, .ref (ad 1000)), (1, .int p0), (2, .int p1), (3, .int p2), (4, .int p3)] := hl
  refine lv_iload_n hx hb d_M_chip_0 rfl (lv_at hl 1 rfl) ?_
  refine lv_i2l hx hb d_M_chip_1 rfl ?_
  refine lv_topl (fun x_1 ex_1 => ?_)
  refine lv_lconst (v := 0) hx hb d_M_chip_2 (by decide) ?_
  refine lv_ldc2 (v := 1000000) hx hb hown (hT _ k_589) d_M_chip_3 ?_
  refine m_roi (m_runS (As := [.long x_1, .long 0, .long 1000000]) (rest := []) ⟨hx, hb, hml, hown, hts⟩ (c_M_isIn l D dA ad G s.heap.size x_1 0 1000000) (va_cwS 3 hts (gS k_690 k_688 k_689 k_4) rfl rfl rfl (by decide +kernel) ⟨Nat.le_of_ble_eq_true rfl, Nat.le_of_ble_eq_true rfl⟩) hm hA hC rfl hl.1 rfl (Nat.le_of_ble_eq_true rfl) d_M_chip_6 ⟨Nat.le_of_ble_eq_true rfl, Nat.le_of_ble_eq_true rfl⟩) hm hA (fun r_2 H locs w_3 hm => ?_)
  refine lv_if_eq (tgt := 39) hx hb d_M_chip_9 (by decide) (fun c_9 => ?_) (fun c_9 => ?_)
  · refine lv_iconst (v := 0) hx hb d_M_chip_39 (by decide) ?_
    refine lv_istore (lv' := [(5, .int 0), (0, .ref (ad 1000)), (1, .int p0), (2, .int p1), (3, .int p2), (4, .int p3)]) hx hb d_M_chip_40 hl (by decide) rfl (fun ls hl => ?_)
    refine lv_aload_n hx hb d_M_chip_42 rfl (lv_at hl 1 rfl) ?_
    refine lv_iload hx hb d_M_chip_43 (lv_at hl 5 rfl) ?_
    refine lv_if_eq (tgt := 58) hx hb d_M_chip_45 (by decide) (fun c_45 => ?_) (fun c_45 => ?_)
    · refine lv_iload hx hb d_M_chip_58 (lv_at hl 0 rfl) ?_
      refine lv_if_eq (tgt := 67) hx hb d_M_chip_60 (by decide) (fun _ => ?_) (fun c9 => absurd (by decide) c9)
      refine lv_iconst (v := 2) hx hb d_M_chip_67 (by decide) ?_
      refine m_put (v := .int 2) (ty := .int) (C := R_M) (T := T_M) (N := 28) hx hb hT in_M t_M tok_M nm_M hown hC.1 hm 1000 rfl ((congrFun hG 1000).trans gM_o) rfl 0 (by decide) (hT _ k_590) (fun _ h9 => h9) rfl (by decide +kernel) rfl rfl (Nat.le_of_ble_eq_true rfl) d_M_chip_68 (fun H locs hm => ?_)
      obtain ⟨G_4, eG_4⟩ : ∃ z : mG, z = va_up G 1000 (some (.inr (6, [.int 2, .long sd, .int (S 2), .ref (ad 1003), .ref (ad 1004), .ref (ad 1005), .ref (ad 1006), .ref (ad 1007), .ref (ad 1008), .ref (ad 1009), .ref (ad 1010), .ref (ad 1011), .ref (ad 1012), .ref (ad 1013), .ref (ad 1014), .ref (ad 1015), .ref (ad 1016), .int (S 17), .int (S 18), .int (S 19), .int (S 20), .ref (ad 1021), .ref (ad 1022), .ref (ad 1023), .ref (ad 1024), .ref (ad 1025), .int (S 26), .int (S 27)]))) := ⟨_, rfl⟩
      have hm : mS D mCl (mA ad G s.heap.size) s.heap ad G_4 H locs := by rw [eG_4]; exact hm
      have g_5 : G_4 1000 = some (.inr (6, [.int 2, .long sd, .int (S 2), .ref (ad 1003), .ref (ad 1004), .ref (ad 1005), .ref (ad 1006), .ref (ad 1007), .ref (ad 1008), .ref (ad 1009), .ref (ad 1010), .ref (ad 1011), .ref (ad 1012), .ref (ad 1013), .ref (ad 1014), .ref (ad 1015), .ref (ad 1016), .int (S 17), .int (S 18), .int (S 19), .int (S 20), .ref (ad 1021), .ref (ad 1022), .ref (ad 1023), .ref (ad 1024), .ref (ad 1025), .int (S 26), .int (S 27)])) := by rw [eG_4, va_up_self]
      have g_6 := (congrFun eG_4 1003).trans ((va_up_ne _ _ (by decide)).trans ((congrFun hG 1003).trans gM_3))
      have g_7 := (congrFun eG_4 1004).trans ((va_up_ne _ _ (by decide)).trans ((congrFun hG 1004).trans gM_4))
      have g_8 := (congrFun eG_4 1005).trans ((va_up_ne _ _ (by decide)).trans ((congrFun hG 1005).trans gM_5))
      have g_9 := (congrFun eG_4 1006).trans ((va_up_ne _ _ (by decide)).trans ((congrFun hG 1006).trans gM_6))
      have g_10 := (congrFun eG_4 1007).trans ((va_up_ne _ _ (by decide)).trans ((congrFun hG 1007).trans gM_7))
      have g_11 := (congrFun eG_4 1008).trans ((va_up_ne _ _ (by decide)).trans ((congrFun hG 1008).trans gM_8))
      have g_12 := (congrFun eG_4 1009).trans ((va_up_ne _ _ (by decide)).trans ((congrFun hG 1009).trans gM_9))
      have g_13 := (congrFun eG_4 1010).trans ((va_up_ne _ _ (by decide)).trans ((congrFun hG 1010).trans gM_10))
      have g_14 := (congrFun eG_4 1011).trans ((va_up_ne _ _ (by decide)).trans ((congrFun hG 1011).trans gM_11))
      have g_15 := (congrFun eG_4 1012).trans ((va_up_ne _ _ (by decide)).trans ((congrFun hG 1012).trans gM_12))
      have g_16 := (congrFun eG_4 1013).trans ((va_up_ne _ _ (by decide)).trans ((congrFun hG 1013).trans gM_13))
      have g_17 := (congrFun eG_4 1014).trans ((va_up_ne _ _ (by decide)).trans ((congrFun hG 1014).trans gM_14))
      have g_18 := (congrFun eG_4 1015).trans ((va_up_ne _ _ (by decide)).trans ((congrFun hG 1015).trans gM_15))
      have g_19 := (congrFun eG_4 1016).trans ((va_up_ne _ _ (by decide)).trans ((congrFun hG 1016).trans gM_16))
      have g_20 := (congrFun eG_4 1021).trans ((va_up_ne _ _ (by decide)).trans ((congrFun hG 1021).trans gM_21))
      have g_21 := (congrFun eG_4 1022).trans ((va_up_ne _ _ (by decide)).trans ((congrFun hG 1022).trans gM_22))
      have g_22 := (congrFun eG_4 1023).trans ((va_up_ne _ _ (by decide)).trans ((congrFun hG 1023).trans gM_23))
      have g_23 := (congrFun eG_4 1024).trans ((va_up_ne _ _ (by decide)).trans ((congrFun hG 1024).trans gM_24))
      have g_24 := (congrFun eG_4 1025).trans ((va_up_ne _ _ (by decide)).trans ((congrFun hG 1025).trans gM_25))
      have hG : G_4 = gM dA ad A B (va_up S 0 2) sd G0 := by rw [eG_4, hG]; exact gM_uo (va_up S 0 2)
      refine lv_aload_n hx hb d_M_chip_71 rfl (lv_at hl 1 rfl) ?_
      refine m_get (v := .int 2) (C := R_M) (T := T_M) (N := 28) hx hb hT in_M hown hC.1 hm 1000 rfl g_5 rfl 0 (by decide) (hT _ k_590) (fun _ h9 => h9) rfl d_M_chip_72 ?_
      refine lv_if_le (tgt := 80) hx hb d_M_chip_75 (by decide) (fun c9 => absurd c9 (by decide)) (fun _ => ?_)
      refine lv_iconst (v := 0) hx hb d_M_chip_78 (by decide) ?_
      exact m_iret (v := 0) hx hb hr hm (Or.inr (Or.inl ⟨Or.inl c_45, ((show p0 < 0 ∨ 1000000 < p0 from (Classical.not_not.mp (fun q => bv_eq w_3 c_9 (by rw [ex_1]; exact (inJ (p := p0) (lo := 0) (hi := 1000000) (a := 0) (b := 1000000) (by decide) (by decide)).mpr q)))).elim Or.inl (fun h => Or.inr (Or.inl h))), by rw [hG]⟩)) d_M_chip_79 hlocks
    · refine lv_iload hx hb d_M_chip_48 (lv_at hl 5 rfl) ?_
      refine lv_iconst (v := 1) hx hb d_M_chip_50 (by decide) ?_
      refine lv_icmp_eq (tgt := 58) hx hb d_M_chip_51 (by decide) (fun c_51 => ?_) (fun c_51 => ?_)
      · refine lv_iload hx hb d_M_chip_58 (lv_at hl 0 rfl) ?_
        refine lv_if_eq (tgt := 67) hx hb d_M_chip_60 (by decide) (fun _ => ?_) (fun c9 => absurd (by decide) c9)
        refine lv_iconst (v := 2) hx hb d_M_chip_67 (by decide) ?_
        refine m_put (v := .int 2) (ty := .int) (C := R_M) (T := T_M) (N := 28) hx hb hT in_M t_M tok_M nm_M hown hC.1 hm 1000 rfl ((congrFun hG 1000).trans gM_o) rfl 0 (by decide) (hT _ k_590) (fun _ h9 => h9) rfl (by decide +kernel) rfl rfl (Nat.le_of_ble_eq_true rfl) d_M_chip_68 (fun H locs hm => ?_)
        obtain ⟨G_25, eG_25⟩ : ∃ z : mG, z = va_up G 1000 (some (.inr (6, [.int 2, .long sd, .int (S 2), .ref (ad 1003), .ref (ad 1004), .ref (ad 1005), .ref (ad 1006), .ref (ad 1007), .ref (ad 1008), .ref (ad 1009), .ref (ad 1010), .ref (ad 1011), .ref (ad 1012), .ref (ad 1013), .ref (ad 1014), .ref (ad 1015), .ref (ad 1016), .int (S 17), .int (S 18), .int (S 19), .int (S 20), .ref (ad 1021), .ref (ad 1022), .ref (ad 1023), .ref (ad 1024), .ref (ad 1025), .int (S 26), .int (S 27)]))) := ⟨_, rfl⟩
        have hm : mS D mCl (mA ad G s.heap.size) s.heap ad G_25 H locs := by rw [eG_25]; exact hm
        have g_26 : G_25 1000 = some (.inr (6, [.int 2, .long sd, .int (S 2), .ref (ad 1003), .ref (ad 1004), .ref (ad 1005), .ref (ad 1006), .ref (ad 1007), .ref (ad 1008), .ref (ad 1009), .ref (ad 1010), .ref (ad 1011), .ref (ad 1012), .ref (ad 1013), .ref (ad 1014), .ref (ad 1015), .ref (ad 1016), .int (S 17), .int (S 18), .int (S 19), .int (S 20), .ref (ad 1021), .ref (ad 1022), .ref (ad 1023), .ref (ad 1024), .ref (ad 1025), .int (S 26), .int (S 27)])) := by rw [eG_25, va_up_self]
        have g_27 := (congrFun eG_25 1003).trans ((va_up_ne _ _ (by decide)).trans ((congrFun hG 1003).trans gM_3))
        have g_28 := (congrFun eG_25 1004).trans ((va_up_ne _ _ (by decide)).trans ((congrFun hG 1004).trans gM_4))
        have g_29 := (congrFun eG_25 1005).trans ((va_up_ne _ _ (by decide)).trans ((congrFun hG 1005).trans gM_5))
        have g_30 := (congrFun eG_25 1006).trans ((va_up_ne _ _ (by decide)).trans ((congrFun hG 1006).trans gM_6))
        have g_31 := (congrFun eG_25 1007).trans ((va_up_ne _ _ (by decide)).trans ((congrFun hG 1007).trans gM_7))
        have g_32 := (congrFun eG_25 1008).trans ((va_up_ne _ _ (by decide)).trans ((congrFun hG 1008).trans gM_8))
        have g_33 := (congrFun eG_25 1009).trans ((va_up_ne _ _ (by decide)).trans ((congrFun hG 1009).trans gM_9))
        have g_34 := (congrFun eG_25 1010).trans ((va_up_ne _ _ (by decide)).trans ((congrFun hG 1010).trans gM_10))
        have g_35 := (congrFun eG_25 1011).trans ((va_up_ne _ _ (by decide)).trans ((congrFun hG 1011).trans gM_11))
        have g_36 := (congrFun eG_25 1012).trans ((va_up_ne _ _ (by decide)).trans ((congrFun hG 1012).trans gM_12))
        have g_37 := (congrFun eG_25 1013).trans ((va_up_ne _ _ (by decide)).trans ((congrFun hG 1013).trans gM_13))
        have g_38 := (congrFun eG_25 1014).trans ((va_up_ne _ _ (by decide)).trans ((congrFun hG 1014).trans gM_14))
        have g_39 := (congrFun eG_25 1015).trans ((va_up_ne _ _ (by decide)).trans ((congrFun hG 1015).trans gM_15))
        have g_40 := (congrFun eG_25 1016).trans ((va_up_ne _ _ (by decide)).trans ((congrFun hG 1016).trans gM_16))
        have g_41 := (congrFun eG_25 1021).trans ((va_up_ne _ _ (by decide)).trans ((congrFun hG 1021).trans gM_21))
        have g_42 := (congrFun eG_25 1022).trans ((va_up_ne _ _ (by decide)).trans ((congrFun hG 1022).trans gM_22))
        have g_43 := (congrFun eG_25 1023).trans ((va_up_ne _ _ (by decide)).trans ((congrFun hG 1023).trans gM_23))
        have g_44 := (congrFun eG_25 1024).trans ((va_up_ne _ _ (by decide)).trans ((congrFun hG 1024).trans gM_24))
        have g_45 := (congrFun eG_25 1025).trans ((va_up_ne _ _ (by decide)).trans ((congrFun hG 1025).trans gM_25))
        have hG : G_25 = gM dA ad A B (va_up S 0 2) sd G0 := by rw [eG_25, hG]; exact gM_uo (va_up S 0 2)
        refine lv_aload_n hx hb d_M_chip_71 rfl (lv_at hl 1 rfl) ?_
        refine m_get (v := .int 2) (C := R_M) (T := T_M) (N := 28) hx hb hT in_M hown hC.1 hm 1000 rfl g_26 rfl 0 (by decide) (hT _ k_590) (fun _ h9 => h9) rfl d_M_chip_72 ?_
        refine lv_if_le (tgt := 80) hx hb d_M_chip_75 (by decide) (fun c9 => absurd c9 (by decide)) (fun _ => ?_)
        refine lv_iconst (v := 0) hx hb d_M_chip_78 (by decide) ?_
        exact m_iret (v := 0) hx hb hr hm (Or.inr (Or.inl ⟨Or.inr c_51, ((show p0 < 0 ∨ 1000000 < p0 from (Classical.not_not.mp (fun q => bv_eq w_3 c_9 (by rw [ex_1]; exact (inJ (p := p0) (lo := 0) (hi := 1000000) (a := 0) (b := 1000000) (by decide) (by decide)).mpr q)))).elim Or.inl (fun h => Or.inr (Or.inl h))), by rw [hG]⟩)) d_M_chip_79 hlocks
      · refine lv_iconst (v := 1) hx hb d_M_chip_54 (by decide) ?_
        refine lv_goto (tgt := 68) hx hb d_M_chip_55 (by decide) ?_
        refine m_put (v := .int 1) (ty := .int) (C := R_M) (T := T_M) (N := 28) hx hb hT in_M t_M tok_M nm_M hown hC.1 hm 1000 rfl ((congrFun hG 1000).trans gM_o) rfl 0 (by decide) (hT _ k_590) (fun _ h9 => h9) rfl (by decide +kernel) rfl rfl (Nat.le_of_ble_eq_true rfl) d_M_chip_68 (fun H locs hm => ?_)
        obtain ⟨G_46, eG_46⟩ : ∃ z : mG, z = va_up G 1000 (some (.inr (6, [.int 1, .long sd, .int (S 2), .ref (ad 1003), .ref (ad 1004), .ref (ad 1005), .ref (ad 1006), .ref (ad 1007), .ref (ad 1008), .ref (ad 1009), .ref (ad 1010), .ref (ad 1011), .ref (ad 1012), .ref (ad 1013), .ref (ad 1014), .ref (ad 1015), .ref (ad 1016), .int (S 17), .int (S 18), .int (S 19), .int (S 20), .ref (ad 1021), .ref (ad 1022), .ref (ad 1023), .ref (ad 1024), .ref (ad 1025), .int (S 26), .int (S 27)]))) := ⟨_, rfl⟩
        have hm : mS D mCl (mA ad G s.heap.size) s.heap ad G_46 H locs := by rw [eG_46]; exact hm
        have g_47 : G_46 1000 = some (.inr (6, [.int 1, .long sd, .int (S 2), .ref (ad 1003), .ref (ad 1004), .ref (ad 1005), .ref (ad 1006), .ref (ad 1007), .ref (ad 1008), .ref (ad 1009), .ref (ad 1010), .ref (ad 1011), .ref (ad 1012), .ref (ad 1013), .ref (ad 1014), .ref (ad 1015), .ref (ad 1016), .int (S 17), .int (S 18), .int (S 19), .int (S 20), .ref (ad 1021), .ref (ad 1022), .ref (ad 1023), .ref (ad 1024), .ref (ad 1025), .int (S 26), .int (S 27)])) := by rw [eG_46, va_up_self]
        have g_48 := (congrFun eG_46 1003).trans ((va_up_ne _ _ (by decide)).trans ((congrFun hG 1003).trans gM_3))
        have g_49 := (congrFun eG_46 1004).trans ((va_up_ne _ _ (by decide)).trans ((congrFun hG 1004).trans gM_4))
        have g_50 := (congrFun eG_46 1005).trans ((va_up_ne _ _ (by decide)).trans ((congrFun hG 1005).trans gM_5))
        have g_51 := (congrFun eG_46 1006).trans ((va_up_ne _ _ (by decide)).trans ((congrFun hG 1006).trans gM_6))
        have g_52 := (congrFun eG_46 1007).trans ((va_up_ne _ _ (by decide)).trans ((congrFun hG 1007).trans gM_7))
        have g_53 := (congrFun eG_46 1008).trans ((va_up_ne _ _ (by decide)).trans ((congrFun hG 1008).trans gM_8))
        have g_54 := (congrFun eG_46 1009).trans ((va_up_ne _ _ (by decide)).trans ((congrFun hG 1009).trans gM_9))
        have g_55 := (congrFun eG_46 1010).trans ((va_up_ne _ _ (by decide)).trans ((congrFun hG 1010).trans gM_10))
        have g_56 := (congrFun eG_46 1011).trans ((va_up_ne _ _ (by decide)).trans ((congrFun hG 1011).trans gM_11))
        have g_57 := (congrFun eG_46 1012).trans ((va_up_ne _ _ (by decide)).trans ((congrFun hG 1012).trans gM_12))
        have g_58 := (congrFun eG_46 1013).trans ((va_up_ne _ _ (by decide)).trans ((congrFun hG 1013).trans gM_13))
        have g_59 := (congrFun eG_46 1014).trans ((va_up_ne _ _ (by decide)).trans ((congrFun hG 1014).trans gM_14))
        have g_60 := (congrFun eG_46 1015).trans ((va_up_ne _ _ (by decide)).trans ((congrFun hG 1015).trans gM_15))
        have g_61 := (congrFun eG_46 1016).trans ((va_up_ne _ _ (by decide)).trans ((congrFun hG 1016).trans gM_16))
        have g_62 := (congrFun eG_46 1021).trans ((va_up_ne _ _ (by decide)).trans ((congrFun hG 1021).trans gM_21))
        have g_63 := (congrFun eG_46 1022).trans ((va_up_ne _ _ (by decide)).trans ((congrFun hG 1022).trans gM_22))
        have g_64 := (congrFun eG_46 1023).trans ((va_up_ne _ _ (by decide)).trans ((congrFun hG 1023).trans gM_23))
        have g_65 := (congrFun eG_46 1024).trans ((va_up_ne _ _ (by decide)).trans ((congrFun hG 1024).trans gM_24))
        have g_66 := (congrFun eG_46 1025).trans ((va_up_ne _ _ (by decide)).trans ((congrFun hG 1025).trans gM_25))
        have hG : G_46 = gM dA ad A B (va_up S 0 1) sd G0 := by rw [eG_46, hG]; exact gM_uo (va_up S 0 1)
        refine lv_aload_n hx hb d_M_chip_71 rfl (lv_at hl 1 rfl) ?_
        refine m_get (v := .int 1) (C := R_M) (T := T_M) (N := 28) hx hb hT in_M hown hC.1 hm 1000 rfl g_47 rfl 0 (by decide) (hT _ k_590) (fun _ h9 => h9) rfl d_M_chip_72 ?_
        refine lv_if_le (tgt := 80) hx hb d_M_chip_75 (by decide) (fun c9 => absurd c9 (by decide)) (fun _ => ?_)
        refine lv_iconst (v := 0) hx hb d_M_chip_78 (by decide) ?_
        exact m_iret (v := 0) hx hb hr hm (Or.inl ⟨fun h => h.elim c_45 c_51, by rw [hG]⟩) d_M_chip_79 hlocks
  · refine lv_iload_n hx hb d_M_chip_12 rfl (lv_at hl 3 rfl) ?_
    refine lv_i2l hx hb d_M_chip_13 rfl ?_
    refine lv_topl (fun x_67 ex_67 => ?_)
    refine lv_lconst (v := 1) hx hb d_M_chip_14 (by decide) ?_
    refine lv_ldc2 (v := 1000) hx hb hown (hT _ k_743) d_M_chip_15 ?_
    refine m_roi (m_runS (As := [.long x_67, .long 1, .long 1000]) (rest := []) ⟨hx, hb, hml, hown, hts⟩ (c_M_isIn l D dA ad G H.size x_67 1 1000) (va_cwS 3 hts (gS k_690 k_688 k_689 k_4) rfl rfl rfl (by decide +kernel) ⟨Nat.le_of_ble_eq_true rfl, Nat.le_of_ble_eq_true rfl⟩) hm hA hC rfl hl.1 rfl (Nat.le_of_ble_eq_true rfl) d_M_chip_18 ⟨Nat.le_of_ble_eq_true rfl, Nat.le_of_ble_eq_true rfl⟩) hm hA (fun r_68 H locs w_69 hm => ?_)
    refine lv_if_eq (tgt := 39) hx hb d_M_chip_21 (by decide) (fun c_21 => ?_) (fun c_21 => ?_)
    · refine lv_iconst (v := 0) hx hb d_M_chip_39 (by decide) ?_
      refine lv_istore (lv' := [(5, .int 0), (0, .ref (ad 1000)), (1, .int p0), (2, .int p1), (3, .int p2), (4, .int p3)]) hx hb d_M_chip_40 hl (by decide) rfl (fun ls hl => ?_)
      refine lv_aload_n hx hb d_M_chip_42 rfl (lv_at hl 1 rfl) ?_
      refine lv_iload hx hb d_M_chip_43 (lv_at hl 5 rfl) ?_
      refine lv_if_eq (tgt := 58) hx hb d_M_chip_45 (by decide) (fun c_45 => ?_) (fun c_45 => ?_)
      · refine lv_iload hx hb d_M_chip_58 (lv_at hl 0 rfl) ?_
        refine lv_if_eq (tgt := 67) hx hb d_M_chip_60 (by decide) (fun _ => ?_) (fun c9 => absurd (by decide) c9)
        refine lv_iconst (v := 2) hx hb d_M_chip_67 (by decide) ?_
        refine m_put (v := .int 2) (ty := .int) (C := R_M) (T := T_M) (N := 28) hx hb hT in_M t_M tok_M nm_M hown hC.1 hm 1000 rfl ((congrFun hG 1000).trans gM_o) rfl 0 (by decide) (hT _ k_590) (fun _ h9 => h9) rfl (by decide +kernel) rfl rfl (Nat.le_of_ble_eq_true rfl) d_M_chip_68 (fun H locs hm => ?_)
        obtain ⟨G_70, eG_70⟩ : ∃ z : mG, z = va_up G 1000 (some (.inr (6, [.int 2, .long sd, .int (S 2), .ref (ad 1003), .ref (ad 1004), .ref (ad 1005), .ref (ad 1006), .ref (ad 1007), .ref (ad 1008), .ref (ad 1009), .ref (ad 1010), .ref (ad 1011), .ref (ad 1012), .ref (ad 1013), .ref (ad 1014), .ref (ad 1015), .ref (ad 1016), .int (S 17), .int (S 18), .int (S 19), .int (S 20), .ref (ad 1021), .ref (ad 1022), .ref (ad 1023), .ref (ad 1024), .ref (ad 1025), .int (S 26), .int (S 27)]))) := ⟨_, rfl⟩
        have hm : mS D mCl (mA ad G s.heap.size) s.heap ad G_70 H locs := by rw [eG_70]; exact hm
        have g_71 : G_70 1000 = some (.inr (6, [.int 2, .long sd, .int (S 2), .ref (ad 1003), .ref (ad 1004), .ref (ad 1005), .ref (ad 1006), .ref (ad 1007), .ref (ad 1008), .ref (ad 1009), .ref (ad 1010), .ref (ad 1011), .ref (ad 1012), .ref (ad 1013), .ref (ad 1014), .ref (ad 1015), .ref (ad 1016), .int (S 17), .int (S 18), .int (S 19), .int (S 20), .ref (ad 1021), .ref (ad 1022), .ref (ad 1023), .ref (ad 1024), .ref (ad 1025), .int (S 26), .int (S 27)])) := by rw [eG_70, va_up_self]
        have g_72 := (congrFun eG_70 1003).trans ((va_up_ne _ _ (by decide)).trans ((congrFun hG 1003).trans gM_3))
        have g_73 := (congrFun eG_70 1004).trans ((va_up_ne _ _ (by decide)).trans ((congrFun hG 1004).trans gM_4))
        have g_74 := (congrFun eG_70 1005).trans ((va_up_ne _ _ (by decide)).trans ((congrFun hG 1005).trans gM_5))
        have g_75 := (congrFun eG_70 1006).trans ((va_up_ne _ _ (by decide)).trans ((congrFun hG 1006).trans gM_6))
        have g_76 := (congrFun eG_70 1007).trans ((va_up_ne _ _ (by decide)).trans ((congrFun hG 1007).trans gM_7))
        have g_77 := (congrFun eG_70 1008).trans ((va_up_ne _ _ (by decide)).trans ((congrFun hG 1008).trans gM_8))
        have g_78 := (congrFun eG_70 1009).trans ((va_up_ne _ _ (by decide)).trans ((congrFun hG 1009).trans gM_9))
        have g_79 := (congrFun eG_70 1010).trans ((va_up_ne _ _ (by decide)).trans ((congrFun hG 1010).trans gM_10))
        have g_80 := (congrFun eG_70 1011).trans ((va_up_ne _ _ (by decide)).trans ((congrFun hG 1011).trans gM_11))
        have g_81 := (congrFun eG_70 1012).trans ((va_up_ne _ _ (by decide)).trans ((congrFun hG 1012).trans gM_12))
        have g_82 := (congrFun eG_70 1013).trans ((va_up_ne _ _ (by decide)).trans ((congrFun hG 1013).trans gM_13))
        have g_83 := (congrFun eG_70 1014).trans ((va_up_ne _ _ (by decide)).trans ((congrFun hG 1014).trans gM_14))
        have g_84 := (congrFun eG_70 1015).trans ((va_up_ne _ _ (by decide)).trans ((congrFun hG 1015).trans gM_15))
        have g_85 := (congrFun eG_70 1016).trans ((va_up_ne _ _ (by decide)).trans ((congrFun hG 1016).trans gM_16))
        have g_86 := (congrFun eG_70 1021).trans ((va_up_ne _ _ (by decide)).trans ((congrFun hG 1021).trans gM_21))
        have g_87 := (congrFun eG_70 1022).trans ((va_up_ne _ _ (by decide)).trans ((congrFun hG 1022).trans gM_22))
        have g_88 := (congrFun eG_70 1023).trans ((va_up_ne _ _ (by decide)).trans ((congrFun hG 1023).trans gM_23))
        have g_89 := (congrFun eG_70 1024).trans ((va_up_ne _ _ (by decide)).trans ((congrFun hG 1024).trans gM_24))
        have g_90 := (congrFun eG_70 1025).trans ((va_up_ne _ _ (by decide)).trans ((congrFun hG 1025).trans gM_25))
        have hG : G_70 = gM dA ad A B (va_up S 0 2) sd G0 := by rw [eG_70, hG]; exact gM_uo (va_up S 0 2)
        refine lv_aload_n hx hb d_M_chip_71 rfl (lv_at hl 1 rfl) ?_
        refine m_get (v := .int 2) (C := R_M) (T := T_M) (N := 28) hx hb hT in_M hown hC.1 hm 1000 rfl g_71 rfl 0 (by decide) (hT _ k_590) (fun _ h9 => h9) rfl d_M_chip_72 ?_
        refine lv_if_le (tgt := 80) hx hb d_M_chip_75 (by decide) (fun c9 => absurd c9 (by decide)) (fun _ => ?_)
        refine lv_iconst (v := 0) hx hb d_M_chip_78 (by decide) ?_
        exact m_iret (v := 0) hx hb hr hm (Or.inr (Or.inl ⟨Or.inl c_45, (Or.inr (Or.inr ((show p2 < 1 ∨ 1000 < p2 from (Classical.not_not.mp (fun q => bv_eq w_69 c_21 (by rw [ex_67]; exact (inJ (p := p2) (lo := 1) (hi := 1000) (a := 1) (b := 1000) (by decide) (by decide)).mpr q)))).elim Or.inl (fun h => Or.inr (Or.inl h))))), by rw [hG]⟩)) d_M_chip_79 hlocks
      · refine lv_iload hx hb d_M_chip_48 (lv_at hl 5 rfl) ?_
        refine lv_iconst (v := 1) hx hb d_M_chip_50 (by decide) ?_
        refine lv_icmp_eq (tgt := 58) hx hb d_M_chip_51 (by decide) (fun c_51 => ?_) (fun c_51 => ?_)
        · refine lv_iload hx hb d_M_chip_58 (lv_at hl 0 rfl) ?_
          refine lv_if_eq (tgt := 67) hx hb d_M_chip_60 (by decide) (fun _ => ?_) (fun c9 => absurd (by decide) c9)
          refine lv_iconst (v := 2) hx hb d_M_chip_67 (by decide) ?_
          refine m_put (v := .int 2) (ty := .int) (C := R_M) (T := T_M) (N := 28) hx hb hT in_M t_M tok_M nm_M hown hC.1 hm 1000 rfl ((congrFun hG 1000).trans gM_o) rfl 0 (by decide) (hT _ k_590) (fun _ h9 => h9) rfl (by decide +kernel) rfl rfl (Nat.le_of_ble_eq_true rfl) d_M_chip_68 (fun H locs hm => ?_)
          obtain ⟨G_91, eG_91⟩ : ∃ z : mG, z = va_up G 1000 (some (.inr (6, [.int 2, .long sd, .int (S 2), .ref (ad 1003), .ref (ad 1004), .ref (ad 1005), .ref (ad 1006), .ref (ad 1007), .ref (ad 1008), .ref (ad 1009), .ref (ad 1010), .ref (ad 1011), .ref (ad 1012), .ref (ad 1013), .ref (ad 1014), .ref (ad 1015), .ref (ad 1016), .int (S 17), .int (S 18), .int (S 19), .int (S 20), .ref (ad 1021), .ref (ad 1022), .ref (ad 1023), .ref (ad 1024), .ref (ad 1025), .int (S 26), .int (S 27)]))) := ⟨_, rfl⟩
          have hm : mS D mCl (mA ad G s.heap.size) s.heap ad G_91 H locs := by rw [eG_91]; exact hm
          have g_92 : G_91 1000 = some (.inr (6, [.int 2, .long sd, .int (S 2), .ref (ad 1003), .ref (ad 1004), .ref (ad 1005), .ref (ad 1006), .ref (ad 1007), .ref (ad 1008), .ref (ad 1009), .ref (ad 1010), .ref (ad 1011), .ref (ad 1012), .ref (ad 1013), .ref (ad 1014), .ref (ad 1015), .ref (ad 1016), .int (S 17), .int (S 18), .int (S 19), .int (S 20), .ref (ad 1021), .ref (ad 1022), .ref (ad 1023), .ref (ad 1024), .ref (ad 1025), .int (S 26), .int (S 27)])) := by rw [eG_91, va_up_self]
          have g_93 := (congrFun eG_91 1003).trans ((va_up_ne _ _ (by decide)).trans ((congrFun hG 1003).trans gM_3))
          have g_94 := (congrFun eG_91 1004).trans ((va_up_ne _ _ (by decide)).trans ((congrFun hG 1004).trans gM_4))
          have g_95 := (congrFun eG_91 1005).trans ((va_up_ne _ _ (by decide)).trans ((congrFun hG 1005).trans gM_5))
          have g_96 := (congrFun eG_91 1006).trans ((va_up_ne _ _ (by decide)).trans ((congrFun hG 1006).trans gM_6))
          have g_97 := (congrFun eG_91 1007).trans ((va_up_ne _ _ (by decide)).trans ((congrFun hG 1007).trans gM_7))
          have g_98 := (congrFun eG_91 1008).trans ((va_up_ne _ _ (by decide)).trans ((congrFun hG 1008).trans gM_8))
          have g_99 := (congrFun eG_91 1009).trans ((va_up_ne _ _ (by decide)).trans ((congrFun hG 1009).trans gM_9))
          have g_100 := (congrFun eG_91 1010).trans ((va_up_ne _ _ (by decide)).trans ((congrFun hG 1010).trans gM_10))
          have g_101 := (congrFun eG_91 1011).trans ((va_up_ne _ _ (by decide)).trans ((congrFun hG 1011).trans gM_11))
          have g_102 := (congrFun eG_91 1012).trans ((va_up_ne _ _ (by decide)).trans ((congrFun hG 1012).trans gM_12))
          have g_103 := (congrFun eG_91 1013).trans ((va_up_ne _ _ (by decide)).trans ((congrFun hG 1013).trans gM_13))
          have g_104 := (congrFun eG_91 1014).trans ((va_up_ne _ _ (by decide)).trans ((congrFun hG 1014).trans gM_14))
          have g_105 := (congrFun eG_91 1015).trans ((va_up_ne _ _ (by decide)).trans ((congrFun hG 1015).trans gM_15))
          have g_106 := (congrFun eG_91 1016).trans ((va_up_ne _ _ (by decide)).trans ((congrFun hG 1016).trans gM_16))
          have g_107 := (congrFun eG_91 1021).trans ((va_up_ne _ _ (by decide)).trans ((congrFun hG 1021).trans gM_21))
          have g_108 := (congrFun eG_91 1022).trans ((va_up_ne _ _ (by decide)).trans ((congrFun hG 1022).trans gM_22))
          have g_109 := (congrFun eG_91 1023).trans ((va_up_ne _ _ (by decide)).trans ((congrFun hG 1023).trans gM_23))
          have g_110 := (congrFun eG_91 1024).trans ((va_up_ne _ _ (by decide)).trans ((congrFun hG 1024).trans gM_24))
          have g_111 := (congrFun eG_91 1025).trans ((va_up_ne _ _ (by decide)).trans ((congrFun hG 1025).trans gM_25))
          have hG : G_91 = gM dA ad A B (va_up S 0 2) sd G0 := by rw [eG_91, hG]; exact gM_uo (va_up S 0 2)
          refine lv_aload_n hx hb d_M_chip_71 rfl (lv_at hl 1 rfl) ?_
          refine m_get (v := .int 2) (C := R_M) (T := T_M) (N := 28) hx hb hT in_M hown hC.1 hm 1000 rfl g_92 rfl 0 (by decide) (hT _ k_590) (fun _ h9 => h9) rfl d_M_chip_72 ?_
          refine lv_if_le (tgt := 80) hx hb d_M_chip_75 (by decide) (fun c9 => absurd c9 (by decide)) (fun _ => ?_)
          refine lv_iconst (v := 0) hx hb d_M_chip_78 (by decide) ?_
          exact m_iret (v := 0) hx hb hr hm (Or.inr (Or.inl ⟨Or.inr c_51, (Or.inr (Or.inr ((show p2 < 1 ∨ 1000 < p2 from (Classical.not_not.mp (fun q => bv_eq w_69 c_21 (by rw [ex_67]; exact (inJ (p := p2) (lo := 1) (hi := 1000) (a := 1) (b := 1000) (by decide) (by decide)).mpr q)))).elim Or.inl (fun h => Or.inr (Or.inl h))))), by rw [hG]⟩)) d_M_chip_79 hlocks
        · refine lv_iconst (v := 1) hx hb d_M_chip_54 (by decide) ?_
          refine lv_goto (tgt := 68) hx hb d_M_chip_55 (by decide) ?_
          refine m_put (v := .int 1) (ty := .int) (C := R_M) (T := T_M) (N := 28) hx hb hT in_M t_M tok_M nm_M hown hC.1 hm 1000 rfl ((congrFun hG 1000).trans gM_o) rfl 0 (by decide) (hT _ k_590) (fun _ h9 => h9) rfl (by decide +kernel) rfl rfl (Nat.le_of_ble_eq_true rfl) d_M_chip_68 (fun H locs hm => ?_)
          obtain ⟨G_112, eG_112⟩ : ∃ z : mG, z = va_up G 1000 (some (.inr (6, [.int 1, .long sd, .int (S 2), .ref (ad 1003), .ref (ad 1004), .ref (ad 1005), .ref (ad 1006), .ref (ad 1007), .ref (ad 1008), .ref (ad 1009), .ref (ad 1010), .ref (ad 1011), .ref (ad 1012), .ref (ad 1013), .ref (ad 1014), .ref (ad 1015), .ref (ad 1016), .int (S 17), .int (S 18), .int (S 19), .int (S 20), .ref (ad 1021), .ref (ad 1022), .ref (ad 1023), .ref (ad 1024), .ref (ad 1025), .int (S 26), .int (S 27)]))) := ⟨_, rfl⟩
          have hm : mS D mCl (mA ad G s.heap.size) s.heap ad G_112 H locs := by rw [eG_112]; exact hm
          have g_113 : G_112 1000 = some (.inr (6, [.int 1, .long sd, .int (S 2), .ref (ad 1003), .ref (ad 1004), .ref (ad 1005), .ref (ad 1006), .ref (ad 1007), .ref (ad 1008), .ref (ad 1009), .ref (ad 1010), .ref (ad 1011), .ref (ad 1012), .ref (ad 1013), .ref (ad 1014), .ref (ad 1015), .ref (ad 1016), .int (S 17), .int (S 18), .int (S 19), .int (S 20), .ref (ad 1021), .ref (ad 1022), .ref (ad 1023), .ref (ad 1024), .ref (ad 1025), .int (S 26), .int (S 27)])) := by rw [eG_112, va_up_self]
          have g_114 := (congrFun eG_112 1003).trans ((va_up_ne _ _ (by decide)).trans ((congrFun hG 1003).trans gM_3))
          have g_115 := (congrFun eG_112 1004).trans ((va_up_ne _ _ (by decide)).trans ((congrFun hG 1004).trans gM_4))
          have g_116 := (congrFun eG_112 1005).trans ((va_up_ne _ _ (by decide)).trans ((congrFun hG 1005).trans gM_5))
          have g_117 := (congrFun eG_112 1006).trans ((va_up_ne _ _ (by decide)).trans ((congrFun hG 1006).trans gM_6))
          have g_118 := (congrFun eG_112 1007).trans ((va_up_ne _ _ (by decide)).trans ((congrFun hG 1007).trans gM_7))
          have g_119 := (congrFun eG_112 1008).trans ((va_up_ne _ _ (by decide)).trans ((congrFun hG 1008).trans gM_8))
          have g_120 := (congrFun eG_112 1009).trans ((va_up_ne _ _ (by decide)).trans ((congrFun hG 1009).trans gM_9))
          have g_121 := (congrFun eG_112 1010).trans ((va_up_ne _ _ (by decide)).trans ((congrFun hG 1010).trans gM_10))
          have g_122 := (congrFun eG_112 1011).trans ((va_up_ne _ _ (by decide)).trans ((congrFun hG 1011).trans gM_11))
          have g_123 := (congrFun eG_112 1012).trans ((va_up_ne _ _ (by decide)).trans ((congrFun hG 1012).trans gM_12))
          have g_124 := (congrFun eG_112 1013).trans ((va_up_ne _ _ (by decide)).trans ((congrFun hG 1013).trans gM_13))
          have g_125 := (congrFun eG_112 1014).trans ((va_up_ne _ _ (by decide)).trans ((congrFun hG 1014).trans gM_14))
          have g_126 := (congrFun eG_112 1015).trans ((va_up_ne _ _ (by decide)).trans ((congrFun hG 1015).trans gM_15))
          have g_127 := (congrFun eG_112 1016).trans ((va_up_ne _ _ (by decide)).trans ((congrFun hG 1016).trans gM_16))
          have g_128 := (congrFun eG_112 1021).trans ((va_up_ne _ _ (by decide)).trans ((congrFun hG 1021).trans gM_21))
          have g_129 := (congrFun eG_112 1022).trans ((va_up_ne _ _ (by decide)).trans ((congrFun hG 1022).trans gM_22))
          have g_130 := (congrFun eG_112 1023).trans ((va_up_ne _ _ (by decide)).trans ((congrFun hG 1023).trans gM_23))
          have g_131 := (congrFun eG_112 1024).trans ((va_up_ne _ _ (by decide)).trans ((congrFun hG 1024).trans gM_24))
          have g_132 := (congrFun eG_112 1025).trans ((va_up_ne _ _ (by decide)).trans ((congrFun hG 1025).trans gM_25))
          have hG : G_112 = gM dA ad A B (va_up S 0 1) sd G0 := by rw [eG_112, hG]; exact gM_uo (va_up S 0 1)
          refine lv_aload_n hx hb d_M_chip_71 rfl (lv_at hl 1 rfl) ?_
          refine m_get (v := .int 1) (C := R_M) (T := T_M) (N := 28) hx hb hT in_M hown hC.1 hm 1000 rfl g_113 rfl 0 (by decide) (hT _ k_590) (fun _ h9 => h9) rfl d_M_chip_72 ?_
          refine lv_if_le (tgt := 80) hx hb d_M_chip_75 (by decide) (fun c9 => absurd c9 (by decide)) (fun _ => ?_)
          refine lv_iconst (v := 0) hx hb d_M_chip_78 (by decide) ?_
          exact m_iret (v := 0) hx hb hr hm (Or.inl ⟨fun h => h.elim c_45 c_51, by rw [hG]⟩) d_M_chip_79 hlocks
    · refine lv_iload_n hx hb d_M_chip_24 rfl (lv_at hl 2 rfl) ?_
      refine lv_i2l hx hb d_M_chip_25 rfl ?_
      refine lv_topl (fun x_133 ex_133 => ?_)
      refine lv_lconst (v := 0) hx hb d_M_chip_26 (by decide) ?_
      refine lv_iload_n hx hb d_M_chip_27 rfl (lv_at hl 3 rfl) ?_
      refine lv_i2l hx hb d_M_chip_28 rfl ?_
      refine lv_topl (fun x_134 ex_134 => ?_)
      refine m_roi (m_runS (As := [.long x_133, .long 0, .long x_134]) (rest := []) ⟨hx, hb, hml, hown, hts⟩ (c_M_isIn l D dA ad G H.size x_133 0 x_134) (va_cwS 3 hts (gS k_690 k_688 k_689 k_4) rfl rfl rfl (by decide +kernel) ⟨Nat.le_of_ble_eq_true rfl, Nat.le_of_ble_eq_true rfl⟩) hm hA hC rfl hl.1 rfl (Nat.le_of_ble_eq_true rfl) d_M_chip_29 ⟨Nat.le_of_ble_eq_true rfl, Nat.le_of_ble_eq_true rfl⟩) hm hA (fun r_135 H locs w_136 hm => ?_)
      refine lv_if_eq (tgt := 39) hx hb d_M_chip_32 (by decide) (fun c_32 => ?_) (fun c_32 => ?_)
      · refine lv_iconst (v := 0) hx hb d_M_chip_39 (by decide) ?_
        refine lv_istore (lv' := [(5, .int 0), (0, .ref (ad 1000)), (1, .int p0), (2, .int p1), (3, .int p2), (4, .int p3)]) hx hb d_M_chip_40 hl (by decide) rfl (fun ls hl => ?_)
        refine lv_aload_n hx hb d_M_chip_42 rfl (lv_at hl 1 rfl) ?_
        refine lv_iload hx hb d_M_chip_43 (lv_at hl 5 rfl) ?_
        refine lv_if_eq (tgt := 58) hx hb d_M_chip_45 (by decide) (fun c_45 => ?_) (fun c_45 => ?_)
        · refine lv_iload hx hb d_M_chip_58 (lv_at hl 0 rfl) ?_
          refine lv_if_eq (tgt := 67) hx hb d_M_chip_60 (by decide) (fun _ => ?_) (fun c9 => absurd (by decide) c9)
          refine lv_iconst (v := 2) hx hb d_M_chip_67 (by decide) ?_
          refine m_put (v := .int 2) (ty := .int) (C := R_M) (T := T_M) (N := 28) hx hb hT in_M t_M tok_M nm_M hown hC.1 hm 1000 rfl ((congrFun hG 1000).trans gM_o) rfl 0 (by decide) (hT _ k_590) (fun _ h9 => h9) rfl (by decide +kernel) rfl rfl (Nat.le_of_ble_eq_true rfl) d_M_chip_68 (fun H locs hm => ?_)
          obtain ⟨G_137, eG_137⟩ : ∃ z : mG, z = va_up G 1000 (some (.inr (6, [.int 2, .long sd, .int (S 2), .ref (ad 1003), .ref (ad 1004), .ref (ad 1005), .ref (ad 1006), .ref (ad 1007), .ref (ad 1008), .ref (ad 1009), .ref (ad 1010), .ref (ad 1011), .ref (ad 1012), .ref (ad 1013), .ref (ad 1014), .ref (ad 1015), .ref (ad 1016), .int (S 17), .int (S 18), .int (S 19), .int (S 20), .ref (ad 1021), .ref (ad 1022), .ref (ad 1023), .ref (ad 1024), .ref (ad 1025), .int (S 26), .int (S 27)]))) := ⟨_, rfl⟩
          have hm : mS D mCl (mA ad G s.heap.size) s.heap ad G_137 H locs := by rw [eG_137]; exact hm
          have g_138 : G_137 1000 = some (.inr (6, [.int 2, .long sd, .int (S 2), .ref (ad 1003), .ref (ad 1004), .ref (ad 1005), .ref (ad 1006), .ref (ad 1007), .ref (ad 1008), .ref (ad 1009), .ref (ad 1010), .ref (ad 1011), .ref (ad 1012), .ref (ad 1013), .ref (ad 1014), .ref (ad 1015), .ref (ad 1016), .int (S 17), .int (S 18), .int (S 19), .int (S 20), .ref (ad 1021), .ref (ad 1022), .ref (ad 1023), .ref (ad 1024), .ref (ad 1025), .int (S 26), .int (S 27)])) := by rw [eG_137, va_up_self]
          have g_139 := (congrFun eG_137 1003).trans ((va_up_ne _ _ (by decide)).trans ((congrFun hG 1003).trans gM_3))
          have g_140 := (congrFun eG_137 1004).trans ((va_up_ne _ _ (by decide)).trans ((congrFun hG 1004).trans gM_4))
          have g_141 := (congrFun eG_137 1005).trans ((va_up_ne _ _ (by decide)).trans ((congrFun hG 1005).trans gM_5))
          have g_142 := (congrFun eG_137 1006).trans ((va_up_ne _ _ (by decide)).trans ((congrFun hG 1006).trans gM_6))
          have g_143 := (congrFun eG_137 1007).trans ((va_up_ne _ _ (by decide)).trans ((congrFun hG 1007).trans gM_7))
          have g_144 := (congrFun eG_137 1008).trans ((va_up_ne _ _ (by decide)).trans ((congrFun hG 1008).trans gM_8))
          have g_145 := (congrFun eG_137 1009).trans ((va_up_ne _ _ (by decide)).trans ((congrFun hG 1009).trans gM_9))
          have g_146 := (congrFun eG_137 1010).trans ((va_up_ne _ _ (by decide)).trans ((congrFun hG 1010).trans gM_10))
          have g_147 := (congrFun eG_137 1011).trans ((va_up_ne _ _ (by decide)).trans ((congrFun hG 1011).trans gM_11))
          have g_148 := (congrFun eG_137 1012).trans ((va_up_ne _ _ (by decide)).trans ((congrFun hG 1012).trans gM_12))
          have g_149 := (congrFun eG_137 1013).trans ((va_up_ne _ _ (by decide)).trans ((congrFun hG 1013).trans gM_13))
          have g_150 := (congrFun eG_137 1014).trans ((va_up_ne _ _ (by decide)).trans ((congrFun hG 1014).trans gM_14))
          have g_151 := (congrFun eG_137 1015).trans ((va_up_ne _ _ (by decide)).trans ((congrFun hG 1015).trans gM_15))
          have g_152 := (congrFun eG_137 1016).trans ((va_up_ne _ _ (by decide)).trans ((congrFun hG 1016).trans gM_16))
          have g_153 := (congrFun eG_137 1021).trans ((va_up_ne _ _ (by decide)).trans ((congrFun hG 1021).trans gM_21))
          have g_154 := (congrFun eG_137 1022).trans ((va_up_ne _ _ (by decide)).trans ((congrFun hG 1022).trans gM_22))
          have g_155 := (congrFun eG_137 1023).trans ((va_up_ne _ _ (by decide)).trans ((congrFun hG 1023).trans gM_23))
          have g_156 := (congrFun eG_137 1024).trans ((va_up_ne _ _ (by decide)).trans ((congrFun hG 1024).trans gM_24))
          have g_157 := (congrFun eG_137 1025).trans ((va_up_ne _ _ (by decide)).trans ((congrFun hG 1025).trans gM_25))
          have hG : G_137 = gM dA ad A B (va_up S 0 2) sd G0 := by rw [eG_137, hG]; exact gM_uo (va_up S 0 2)
          refine lv_aload_n hx hb d_M_chip_71 rfl (lv_at hl 1 rfl) ?_
          refine m_get (v := .int 2) (C := R_M) (T := T_M) (N := 28) hx hb hT in_M hown hC.1 hm 1000 rfl g_138 rfl 0 (by decide) (hT _ k_590) (fun _ h9 => h9) rfl d_M_chip_72 ?_
          refine lv_if_le (tgt := 80) hx hb d_M_chip_75 (by decide) (fun c9 => absurd c9 (by decide)) (fun _ => ?_)
          refine lv_iconst (v := 0) hx hb d_M_chip_78 (by decide) ?_
          exact m_iret (v := 0) hx hb hr hm (Or.inr (Or.inl ⟨Or.inl c_45, (Or.inr (Or.inr (Or.inr (Or.inr (show p1 < 0 ∨ p2 < p1 from (Classical.not_not.mp (fun q => bv_eq w_136 c_32 (by rw [ex_133, ex_134]; exact (inJ (p := p1) (lo := 0) (hi := p2) (a := 0) (b := p2.toInt64) (by decide) rfl).mpr q)))))))), by rw [hG]⟩)) d_M_chip_79 hlocks
        · refine lv_iload hx hb d_M_chip_48 (lv_at hl 5 rfl) ?_
          refine lv_iconst (v := 1) hx hb d_M_chip_50 (by decide) ?_
          refine lv_icmp_eq (tgt := 58) hx hb d_M_chip_51 (by decide) (fun c_51 => ?_) (fun c_51 => ?_)
          · refine lv_iload hx hb d_M_chip_58 (lv_at hl 0 rfl) ?_
            refine lv_if_eq (tgt := 67) hx hb d_M_chip_60 (by decide) (fun _ => ?_) (fun c9 => absurd (by decide) c9)
            refine lv_iconst (v := 2) hx hb d_M_chip_67 (by decide) ?_
            refine m_put (v := .int 2) (ty := .int) (C := R_M) (T := T_M) (N := 28) hx hb hT in_M t_M tok_M nm_M hown hC.1 hm 1000 rfl ((congrFun hG 1000).trans gM_o) rfl 0 (by decide) (hT _ k_590) (fun _ h9 => h9) rfl (by decide +kernel) rfl rfl (Nat.le_of_ble_eq_true rfl) d_M_chip_68 (fun H locs hm => ?_)
            obtain ⟨G_158, eG_158⟩ : ∃ z : mG, z = va_up G 1000 (some (.inr (6, [.int 2, .long sd, .int (S 2), .ref (ad 1003), .ref (ad 1004), .ref (ad 1005), .ref (ad 1006), .ref (ad 1007), .ref (ad 1008), .ref (ad 1009), .ref (ad 1010), .ref (ad 1011), .ref (ad 1012), .ref (ad 1013), .ref (ad 1014), .ref (ad 1015), .ref (ad 1016), .int (S 17), .int (S 18), .int (S 19), .int (S 20), .ref (ad 1021), .ref (ad 1022), .ref (ad 1023), .ref (ad 1024), .ref (ad 1025), .int (S 26), .int (S 27)]))) := ⟨_, rfl⟩
            have hm : mS D mCl (mA ad G s.heap.size) s.heap ad G_158 H locs := by rw [eG_158]; exact hm
            have g_159 : G_158 1000 = some (.inr (6, [.int 2, .long sd, .int (S 2), .ref (ad 1003), .ref (ad 1004), .ref (ad 1005), .ref (ad 1006), .ref (ad 1007), .ref (ad 1008), .ref (ad 1009), .ref (ad 1010), .ref (ad 1011), .ref (ad 1012), .ref (ad 1013), .ref (ad 1014), .ref (ad 1015), .ref (ad 1016), .int (S 17), .int (S 18), .int (S 19), .int (S 20), .ref (ad 1021), .ref (ad 1022), .ref (ad 1023), .ref (ad 1024), .ref (ad 1025), .int (S 26), .int (S 27)])) := by rw [eG_158, va_up_self]
            have g_160 := (congrFun eG_158 1003).trans ((va_up_ne _ _ (by decide)).trans ((congrFun hG 1003).trans gM_3))
            have g_161 := (congrFun eG_158 1004).trans ((va_up_ne _ _ (by decide)).trans ((congrFun hG 1004).trans gM_4))
            have g_162 := (congrFun eG_158 1005).trans ((va_up_ne _ _ (by decide)).trans ((congrFun hG 1005).trans gM_5))
            have g_163 := (congrFun eG_158 1006).trans ((va_up_ne _ _ (by decide)).trans ((congrFun hG 1006).trans gM_6))
            have g_164 := (congrFun eG_158 1007).trans ((va_up_ne _ _ (by decide)).trans ((congrFun hG 1007).trans gM_7))
            have g_165 := (congrFun eG_158 1008).trans ((va_up_ne _ _ (by decide)).trans ((congrFun hG 1008).trans gM_8))
            have g_166 := (congrFun eG_158 1009).trans ((va_up_ne _ _ (by decide)).trans ((congrFun hG 1009).trans gM_9))
            have g_167 := (congrFun eG_158 1010).trans ((va_up_ne _ _ (by decide)).trans ((congrFun hG 1010).trans gM_10))
            have g_168 := (congrFun eG_158 1011).trans ((va_up_ne _ _ (by decide)).trans ((congrFun hG 1011).trans gM_11))
            have g_169 := (congrFun eG_158 1012).trans ((va_up_ne _ _ (by decide)).trans ((congrFun hG 1012).trans gM_12))
            have g_170 := (congrFun eG_158 1013).trans ((va_up_ne _ _ (by decide)).trans ((congrFun hG 1013).trans gM_13))
            have g_171 := (congrFun eG_158 1014).trans ((va_up_ne _ _ (by decide)).trans ((congrFun hG 1014).trans gM_14))
            have g_172 := (congrFun eG_158 1015).trans ((va_up_ne _ _ (by decide)).trans ((congrFun hG 1015).trans gM_15))
            have g_173 := (congrFun eG_158 1016).trans ((va_up_ne _ _ (by decide)).trans ((congrFun hG 1016).trans gM_16))
            have g_174 := (congrFun eG_158 1021).trans ((va_up_ne _ _ (by decide)).trans ((congrFun hG 1021).trans gM_21))
            have g_175 := (congrFun eG_158 1022).trans ((va_up_ne _ _ (by decide)).trans ((congrFun hG 1022).trans gM_22))
            have g_176 := (congrFun eG_158 1023).trans ((va_up_ne _ _ (by decide)).trans ((congrFun hG 1023).trans gM_23))
            have g_177 := (congrFun eG_158 1024).trans ((va_up_ne _ _ (by decide)).trans ((congrFun hG 1024).trans gM_24))
            have g_178 := (congrFun eG_158 1025).trans ((va_up_ne _ _ (by decide)).trans ((congrFun hG 1025).trans gM_25))
            have hG : G_158 = gM dA ad A B (va_up S 0 2) sd G0 := by rw [eG_158, hG]; exact gM_uo (va_up S 0 2)
            refine lv_aload_n hx hb d_M_chip_71 rfl (lv_at hl 1 rfl) ?_
            refine m_get (v := .int 2) (C := R_M) (T := T_M) (N := 28) hx hb hT in_M hown hC.1 hm 1000 rfl g_159 rfl 0 (by decide) (hT _ k_590) (fun _ h9 => h9) rfl d_M_chip_72 ?_
            refine lv_if_le (tgt := 80) hx hb d_M_chip_75 (by decide) (fun c9 => absurd c9 (by decide)) (fun _ => ?_)
            refine lv_iconst (v := 0) hx hb d_M_chip_78 (by decide) ?_
            exact m_iret (v := 0) hx hb hr hm (Or.inr (Or.inl ⟨Or.inr c_51, (Or.inr (Or.inr (Or.inr (Or.inr (show p1 < 0 ∨ p2 < p1 from (Classical.not_not.mp (fun q => bv_eq w_136 c_32 (by rw [ex_133, ex_134]; exact (inJ (p := p1) (lo := 0) (hi := p2) (a := 0) (b := p2.toInt64) (by decide) rfl).mpr q)))))))), by rw [hG]⟩)) d_M_chip_79 hlocks
          · refine lv_iconst (v := 1) hx hb d_M_chip_54 (by decide) ?_
            refine lv_goto (tgt := 68) hx hb d_M_chip_55 (by decide) ?_
            refine m_put (v := .int 1) (ty := .int) (C := R_M) (T := T_M) (N := 28) hx hb hT in_M t_M tok_M nm_M hown hC.1 hm 1000 rfl ((congrFun hG 1000).trans gM_o) rfl 0 (by decide) (hT _ k_590) (fun _ h9 => h9) rfl (by decide +kernel) rfl rfl (Nat.le_of_ble_eq_true rfl) d_M_chip_68 (fun H locs hm => ?_)
            obtain ⟨G_179, eG_179⟩ : ∃ z : mG, z = va_up G 1000 (some (.inr (6, [.int 1, .long sd, .int (S 2), .ref (ad 1003), .ref (ad 1004), .ref (ad 1005), .ref (ad 1006), .ref (ad 1007), .ref (ad 1008), .ref (ad 1009), .ref (ad 1010), .ref (ad 1011), .ref (ad 1012), .ref (ad 1013), .ref (ad 1014), .ref (ad 1015), .ref (ad 1016), .int (S 17), .int (S 18), .int (S 19), .int (S 20), .ref (ad 1021), .ref (ad 1022), .ref (ad 1023), .ref (ad 1024), .ref (ad 1025), .int (S 26), .int (S 27)]))) := ⟨_, rfl⟩
            have hm : mS D mCl (mA ad G s.heap.size) s.heap ad G_179 H locs := by rw [eG_179]; exact hm
            have g_180 : G_179 1000 = some (.inr (6, [.int 1, .long sd, .int (S 2), .ref (ad 1003), .ref (ad 1004), .ref (ad 1005), .ref (ad 1006), .ref (ad 1007), .ref (ad 1008), .ref (ad 1009), .ref (ad 1010), .ref (ad 1011), .ref (ad 1012), .ref (ad 1013), .ref (ad 1014), .ref (ad 1015), .ref (ad 1016), .int (S 17), .int (S 18), .int (S 19), .int (S 20), .ref (ad 1021), .ref (ad 1022), .ref (ad 1023), .ref (ad 1024), .ref (ad 1025), .int (S 26), .int (S 27)])) := by rw [eG_179, va_up_self]
            have g_181 := (congrFun eG_179 1003).trans ((va_up_ne _ _ (by decide)).trans ((congrFun hG 1003).trans gM_3))
            have g_182 := (congrFun eG_179 1004).trans ((va_up_ne _ _ (by decide)).trans ((congrFun hG 1004).trans gM_4))
            have g_183 := (congrFun eG_179 1005).trans ((va_up_ne _ _ (by decide)).trans ((congrFun hG 1005).trans gM_5))
            have g_184 := (congrFun eG_179 1006).trans ((va_up_ne _ _ (by decide)).trans ((congrFun hG 1006).trans gM_6))
            have g_185 := (congrFun eG_179 1007).trans ((va_up_ne _ _ (by decide)).trans ((congrFun hG 1007).trans gM_7))
            have g_186 := (congrFun eG_179 1008).trans ((va_up_ne _ _ (by decide)).trans ((congrFun hG 1008).trans gM_8))
            have g_187 := (congrFun eG_179 1009).trans ((va_up_ne _ _ (by decide)).trans ((congrFun hG 1009).trans gM_9))
            have g_188 := (congrFun eG_179 1010).trans ((va_up_ne _ _ (by decide)).trans ((congrFun hG 1010).trans gM_10))
            have g_189 := (congrFun eG_179 1011).trans ((va_up_ne _ _ (by decide)).trans ((congrFun hG 1011).trans gM_11))
            have g_190 := (congrFun eG_179 1012).trans ((va_up_ne _ _ (by decide)).trans ((congrFun hG 1012).trans gM_12))
            have g_191 := (congrFun eG_179 1013).trans ((va_up_ne _ _ (by decide)).trans ((congrFun hG 1013).trans gM_13))
            have g_192 := (congrFun eG_179 1014).trans ((va_up_ne _ _ (by decide)).trans ((congrFun hG 1014).trans gM_14))
            have g_193 := (congrFun eG_179 1015).trans ((va_up_ne _ _ (by decide)).trans ((congrFun hG 1015).trans gM_15))
            have g_194 := (congrFun eG_179 1016).trans ((va_up_ne _ _ (by decide)).trans ((congrFun hG 1016).trans gM_16))
            have g_195 := (congrFun eG_179 1021).trans ((va_up_ne _ _ (by decide)).trans ((congrFun hG 1021).trans gM_21))
            have g_196 := (congrFun eG_179 1022).trans ((va_up_ne _ _ (by decide)).trans ((congrFun hG 1022).trans gM_22))
            have g_197 := (congrFun eG_179 1023).trans ((va_up_ne _ _ (by decide)).trans ((congrFun hG 1023).trans gM_23))
            have g_198 := (congrFun eG_179 1024).trans ((va_up_ne _ _ (by decide)).trans ((congrFun hG 1024).trans gM_24))
            have g_199 := (congrFun eG_179 1025).trans ((va_up_ne _ _ (by decide)).trans ((congrFun hG 1025).trans gM_25))
            have hG : G_179 = gM dA ad A B (va_up S 0 1) sd G0 := by rw [eG_179, hG]; exact gM_uo (va_up S 0 1)
            refine lv_aload_n hx hb d_M_chip_71 rfl (lv_at hl 1 rfl) ?_
            refine m_get (v := .int 1) (C := R_M) (T := T_M) (N := 28) hx hb hT in_M hown hC.1 hm 1000 rfl g_180 rfl 0 (by decide) (hT _ k_590) (fun _ h9 => h9) rfl d_M_chip_72 ?_
            refine lv_if_le (tgt := 80) hx hb d_M_chip_75 (by decide) (fun c9 => absurd c9 (by decide)) (fun _ => ?_)
            refine lv_iconst (v := 0) hx hb d_M_chip_78 (by decide) ?_
            exact m_iret (v := 0) hx hb hr hm (Or.inl ⟨fun h => h.elim c_45 c_51, by rw [hG]⟩) d_M_chip_79 hlocks
      · refine lv_iconst (v := 1) hx hb d_M_chip_35 (by decide) ?_
        refine lv_goto (tgt := 40) hx hb d_M_chip_36 (by decide) ?_
        refine lv_istore (lv' := [(5, .int 1), (0, .ref (ad 1000)), (1, .int p0), (2, .int p1), (3, .int p2), (4, .int p3)]) hx hb d_M_chip_40 hl (by decide) rfl (fun ls hl => ?_)
        refine lv_aload_n hx hb d_M_chip_42 rfl (lv_at hl 1 rfl) ?_
        refine lv_iload hx hb d_M_chip_43 (lv_at hl 5 rfl) ?_
        refine lv_if_eq (tgt := 58) hx hb d_M_chip_45 (by decide) (fun c_45 => ?_) (fun c_45 => ?_)
        · refine lv_iload hx hb d_M_chip_58 (lv_at hl 0 rfl) ?_
          refine lv_if_eq (tgt := 67) hx hb d_M_chip_60 (by decide) (fun c9 => absurd c9 (by decide)) (fun _ => ?_)
          refine lv_iconst (v := 0) hx hb d_M_chip_63 (by decide) ?_
          refine lv_goto (tgt := 68) hx hb d_M_chip_64 (by decide) ?_
          refine m_put (v := .int 0) (ty := .int) (C := R_M) (T := T_M) (N := 28) hx hb hT in_M t_M tok_M nm_M hown hC.1 hm 1000 rfl ((congrFun hG 1000).trans gM_o) rfl 0 (by decide) (hT _ k_590) (fun _ h9 => h9) rfl (by decide +kernel) rfl rfl (Nat.le_of_ble_eq_true rfl) d_M_chip_68 (fun H locs hm => ?_)
          obtain ⟨G_200, eG_200⟩ : ∃ z : mG, z = va_up G 1000 (some (.inr (6, [.int 0, .long sd, .int (S 2), .ref (ad 1003), .ref (ad 1004), .ref (ad 1005), .ref (ad 1006), .ref (ad 1007), .ref (ad 1008), .ref (ad 1009), .ref (ad 1010), .ref (ad 1011), .ref (ad 1012), .ref (ad 1013), .ref (ad 1014), .ref (ad 1015), .ref (ad 1016), .int (S 17), .int (S 18), .int (S 19), .int (S 20), .ref (ad 1021), .ref (ad 1022), .ref (ad 1023), .ref (ad 1024), .ref (ad 1025), .int (S 26), .int (S 27)]))) := ⟨_, rfl⟩
          have hm : mS D mCl (mA ad G s.heap.size) s.heap ad G_200 H locs := by rw [eG_200]; exact hm
          have g_201 : G_200 1000 = some (.inr (6, [.int 0, .long sd, .int (S 2), .ref (ad 1003), .ref (ad 1004), .ref (ad 1005), .ref (ad 1006), .ref (ad 1007), .ref (ad 1008), .ref (ad 1009), .ref (ad 1010), .ref (ad 1011), .ref (ad 1012), .ref (ad 1013), .ref (ad 1014), .ref (ad 1015), .ref (ad 1016), .int (S 17), .int (S 18), .int (S 19), .int (S 20), .ref (ad 1021), .ref (ad 1022), .ref (ad 1023), .ref (ad 1024), .ref (ad 1025), .int (S 26), .int (S 27)])) := by rw [eG_200, va_up_self]
          have g_202 := (congrFun eG_200 1003).trans ((va_up_ne _ _ (by decide)).trans ((congrFun hG 1003).trans gM_3))
          have g_203 := (congrFun eG_200 1004).trans ((va_up_ne _ _ (by decide)).trans ((congrFun hG 1004).trans gM_4))
          have g_204 := (congrFun eG_200 1005).trans ((va_up_ne _ _ (by decide)).trans ((congrFun hG 1005).trans gM_5))
          have g_205 := (congrFun eG_200 1006).trans ((va_up_ne _ _ (by decide)).trans ((congrFun hG 1006).trans gM_6))
          have g_206 := (congrFun eG_200 1007).trans ((va_up_ne _ _ (by decide)).trans ((congrFun hG 1007).trans gM_7))
          have g_207 := (congrFun eG_200 1008).trans ((va_up_ne _ _ (by decide)).trans ((congrFun hG 1008).trans gM_8))
          have g_208 := (congrFun eG_200 1009).trans ((va_up_ne _ _ (by decide)).trans ((congrFun hG 1009).trans gM_9))
          have g_209 := (congrFun eG_200 1010).trans ((va_up_ne _ _ (by decide)).trans ((congrFun hG 1010).trans gM_10))
          have g_210 := (congrFun eG_200 1011).trans ((va_up_ne _ _ (by decide)).trans ((congrFun hG 1011).trans gM_11))
          have g_211 := (congrFun eG_200 1012).trans ((va_up_ne _ _ (by decide)).trans ((congrFun hG 1012).trans gM_12))
          have g_212 := (congrFun eG_200 1013).trans ((va_up_ne _ _ (by decide)).trans ((congrFun hG 1013).trans gM_13))
          have g_213 := (congrFun eG_200 1014).trans ((va_up_ne _ _ (by decide)).trans ((congrFun hG 1014).trans gM_14))
          have g_214 := (congrFun eG_200 1015).trans ((va_up_ne _ _ (by decide)).trans ((congrFun hG 1015).trans gM_15))
          have g_215 := (congrFun eG_200 1016).trans ((va_up_ne _ _ (by decide)).trans ((congrFun hG 1016).trans gM_16))
          have g_216 := (congrFun eG_200 1021).trans ((va_up_ne _ _ (by decide)).trans ((congrFun hG 1021).trans gM_21))
          have g_217 := (congrFun eG_200 1022).trans ((va_up_ne _ _ (by decide)).trans ((congrFun hG 1022).trans gM_22))
          have g_218 := (congrFun eG_200 1023).trans ((va_up_ne _ _ (by decide)).trans ((congrFun hG 1023).trans gM_23))
          have g_219 := (congrFun eG_200 1024).trans ((va_up_ne _ _ (by decide)).trans ((congrFun hG 1024).trans gM_24))
          have g_220 := (congrFun eG_200 1025).trans ((va_up_ne _ _ (by decide)).trans ((congrFun hG 1025).trans gM_25))
          have hG : G_200 = gM dA ad A B (va_up S 0 0) sd G0 := by rw [eG_200, hG]; exact gM_uo (va_up S 0 0)
          refine lv_aload_n hx hb d_M_chip_71 rfl (lv_at hl 1 rfl) ?_
          refine m_get (v := .int 0) (C := R_M) (T := T_M) (N := 28) hx hb hT in_M hown hC.1 hm 1000 rfl g_201 rfl 0 (by decide) (hT _ k_590) (fun _ h9 => h9) rfl d_M_chip_72 ?_
          refine lv_if_le (tgt := 80) hx hb d_M_chip_75 (by decide) (fun _ => ?_) (fun c9 => absurd (by decide) c9)
          have hr0 : ¬ (p0 < 0 ∨ 1000000 < p0) := (inJ (p := p0) (lo := 0) (hi := 1000000) (a := 0) (b := 1000000) (by decide) (by decide)).mp (by have h9 := bv_ne w_3 c_9; rw [ex_1] at h9; exact h9)
          have hr1 : ¬ (p2 < 1 ∨ 1000 < p2) := (inJ (p := p2) (lo := 1) (hi := 1000) (a := 1) (b := 1000) (by decide) (by decide)).mp (by have h9 := bv_ne w_69 c_21; rw [ex_67] at h9; exact h9)
          have hr2 : ¬ (p1 < 0 ∨ p2 < p1) := (inJ (p := p1) (lo := 0) (hi := p2) (a := 0) (b := p2.toInt64) (by decide) rfl).mp (by have h9 := bv_ne w_136 c_32; rw [ex_133, ex_134] at h9; exact h9)
          have hcb : ¬ (p0 < 0 ∨ 1000000 < p0 ∨ p2 < 1 ∨ 1000 < p2 ∨ p1 < 0 ∨ p2 < p1) := fun h => h.elim (fun h => hr0 (Or.inl h)) (fun h => h.elim (fun h => hr0 (Or.inr h)) (fun h => h.elim (fun h => hr1 (Or.inl h)) (fun h => h.elim (fun h => hr1 (Or.inr h)) (hr2))))
          obtain ⟨a, ha, ea⟩ := nI_of2 (M := 1000000) (n := 1000000) rfl (fun h => hr0 (Or.inl h)) (Int32.not_lt.mp (fun h => hr0 (Or.inr h)))
          obtain ⟨w, hw2, ew⟩ := nI_of2 (M := 1000) (n := 1000) rfl (fun h => hr1 (Or.inl (lt01 h))) (Int32.not_lt.mp (fun h => hr1 (Or.inr h)))
          obtain ⟨d, hd31, ed⟩ := nI_of (x := p1) (fun h => hr2 (Or.inl h))
          have hdw : d ≤ w := by
            have h9 := Int32.not_lt.mp (fun h => hr2 (Or.inr h))
            rw [ed, ew] at h9
            exact (nI_leI (by omega) (by omega)).mp h9
          have hw1 : 1 ≤ w := by
            have h9 : ¬ w = 0 := fun q => hr1 (Or.inl (by rw [ew, q]; decide))
            omega
          have hsq := sq_le (a := a) hdw
          have hb18 := bnd3 ha ha (bnd2 hw2 hw2)
          refine lv_ldc2 (v := 4) hx hb hown (hT _ k_772) d_M_chip_80 ?_
          refine lv_iload_n hx hb d_M_chip_83 rfl (lv_at hl 2 rfl) ?_
          refine lv_i2l hx hb d_M_chip_84 rfl ?_
          refine lv_topl (fun x_221 ex_221 => ?_)
          refine lv_lmul hx hb d_M_chip_85 ?_
          refine lv_topl (fun x_222 ex_222 => ?_)
          refine lv_iload_n hx hb d_M_chip_86 rfl (lv_at hl 2 rfl) ?_
          refine lv_i2l hx hb d_M_chip_87 rfl ?_
          refine lv_topl (fun x_223 ex_223 => ?_)
          refine lv_lmul hx hb d_M_chip_88 ?_
          refine lv_topl (fun x_224 ex_224 => ?_)
          refine lv_iload_n hx hb d_M_chip_89 rfl (lv_at hl 3 rfl) ?_
          refine lv_i2l hx hb d_M_chip_90 rfl ?_
          refine lv_topl (fun x_225 ex_225 => ?_)
          refine lv_lmul hx hb d_M_chip_91 ?_
          refine lv_topl (fun x_226 ex_226 => ?_)
          refine lv_iload_n hx hb d_M_chip_92 rfl (lv_at hl 4 rfl) ?_
          refine lv_iload_n hx hb d_M_chip_93 rfl (lv_at hl 3 rfl) ?_
          refine lv_isub hx hb d_M_chip_94 ?_
          refine lv_topi (fun x_227 ex_227 => ?_)
          refine lv_i2l hx hb d_M_chip_95 rfl ?_
          refine lv_topl (fun x_228 ex_228 => ?_)
          refine lv_lmul hx hb d_M_chip_96 ?_
          refine lv_topl (fun x_229 ex_229 => ?_)
          obtain rfl : x_229 = lN (4 * a * a * d * (w - d)) := by
            rw [ex_229, ex_228, ex_227, ex_226, ex_225, ex_224, ex_223, ex_222, ex_221, ea, ed, ew, pk_sub hdw, nI_l (by omega), nI_l (by omega), nI_l (by omega), show (4 : Int64) = lN 4 from rfl, lN_mul, lN_mul, lN_mul, lN_mul]
          refine lv_lstore (lv' := [(6, .long (lN (4 * a * a * d * (w - d)))), (5, .int 1), (0, .ref (ad 1000)), (1, .int p0), (2, .int p1), (3, .int p2), (4, .int p3)]) hx hb d_M_chip_97 hl (by decide) rfl (fun ls hl => ?_)
          refine lv_iload_n hx hb d_M_chip_99 rfl (lv_at hl 5 rfl) ?_
          refine lv_i2l hx hb d_M_chip_100 rfl ?_
          refine lv_topl (fun x_230 ex_230 => ?_)
          refine lv_iload_n hx hb d_M_chip_101 rfl (lv_at hl 5 rfl) ?_
          refine lv_i2l hx hb d_M_chip_102 rfl ?_
          refine lv_topl (fun x_231 ex_231 => ?_)
          refine lv_lmul hx hb d_M_chip_103 ?_
          refine lv_topl (fun x_232 ex_232 => ?_)
          obtain rfl : x_232 = lN (w * w) := by
            rw [ex_232, ex_231, ex_230, ew, nI_l (by omega), lN_mul]
          refine lv_lstore (lv' := [(8, .long (lN (w * w))), (6, .long (lN (4 * a * a * d * (w - d)))), (5, .int 1), (0, .ref (ad 1000)), (1, .int p0), (2, .int p1), (3, .int p2), (4, .int p3)]) hx hb d_M_chip_104 hl (by decide) rfl (fun ls hl => ?_)
          refine lv_lconst (v := 0) hx hb d_M_chip_106 (by decide) ?_
          refine lv_lstore (lv' := [(10, .long 0), (8, .long (lN (w * w))), (6, .long (lN (4 * a * a * d * (w - d)))), (5, .int 1), (0, .ref (ad 1000)), (1, .int p0), (2, .int p1), (3, .int p2), (4, .int p3)]) hx hb d_M_chip_107 hl (by decide) rfl (fun ls hl => ?_)
          refine lv_ldc2 (v := 1000001) hx hb hown (hT _ k_818) d_M_chip_109 ?_
          refine lv_lstore (lv' := [(12, .long 1000001), (10, .long 0), (8, .long (lN (w * w))), (6, .long (lN (4 * a * a * d * (w - d)))), (5, .int 1), (0, .ref (ad 1000)), (1, .int p0), (2, .int p1), (3, .int p2), (4, .int p3)]) hx hb d_M_chip_112 hl (by decide) rfl (fun ls hl => ?_)
          have hup0 : 4 * a * a * d * (w - d) < 1000001 * 1000001 * (w * w) := top_lt ha hw1 hsq
          refine m_loopH (nL := 16) (head := 114) (fun (q9 : Nat) => fun (x : Nat × Nat) => match x with | (x, y) => y ≤ x + q9 ∧ x < y ∧ y ≤ 1000001 ∧ x * x * (w * w) ≤ 4 * a * a * d * (w - d) ∧ 4 * a * a * d * (w - d) < y * y * (w * w)) (fun (x : Nat × Nat) => match x with | (x, y) => [(0, .ref (ad 1000)), (4, .int p3), (6, .long (lN (4 * a * a * d * (w - d)))), (8, .long (lN (w * w))), (10, .long (lN x)), (12, .long (lN y))]) (fun _ => G_200) (fun ⟨x, y⟩ h => by have h1 := h.1; have h2 := h.2.1; omega) (fun q9 x ls H locs hI hl hm ih114 => ?_) (1000001) (0, 1000001) (⟨by omega, by omega, by omega, by simp, hup0⟩) (lv_sub hl [5, 9, 3, 2, 1, 0] rfl) hm
          obtain ⟨x, y⟩ := x
          replace hI : (fun (q9 : Nat) => y ≤ x + q9 ∧ x < y ∧ y ≤ 1000001 ∧ x * x * (w * w) ≤ 4 * a * a * d * (w - d) ∧ 4 * a * a * d * (w - d) < y * y * (w * w)) (q9 + 1) := hI
          have hl : lv_has ls 16 [(0, .ref (ad 1000)), (4, .int p3), (6, .long (lN (4 * a * a * d * (w - d)))), (8, .long (lN (w * w))), (10, .long (lN x)), (12, .long (lN y))] := hl
          have hI3 : y ≤ 1000001 := hI.2.2.1
          have hI4 : x * x * (w * w) ≤ 4 * a * a * d * (w - d) := hI.2.2.2.1
          have hI5 : 4 * a * a * d * (w - d) < y * y * (w * w) := hI.2.2.2.2
          refine lv_lload hx hb d_M_chip_114 (lv_at hl 5 rfl) ?_
          refine lv_lload hx hb d_M_chip_116 (lv_at hl 4 rfl) ?_
          refine lv_lsub hx hb d_M_chip_118 ?_
          refine lv_topl (fun x_233 ex_233 => ?_)
          have hsub : x_233 = lN (y - x) := by rw [ex_233, lN_sub (by omega)]
          refine lv_lconst (v := 1) hx hb d_M_chip_119 (by decide) ?_
          refine W.lcmp hx hb d_M_chip_120 ?_
          refine lv_if_le (tgt := 163) hx hb d_M_chip_121 (by decide) (fun c_121 => ?_) (fun c_121 => ?_)
          · have hyx : y = x + 1 := by
              have h9 := (lg_le _ _).mp c_121
              rw [hsub, show (1 : Int64) = lN 1 from rfl, pk_lLT (by omega) (by omega)] at h9
              omega
            subst hyx
            have hlo := hI4
            have hup := hI5
            have hx6 : x ≤ 1000000 := by omega
            have hxb := bnd3 (show x ≤ 1000001 by omega) (show x ≤ 1000001 by omega) (bnd2 hw2 hw2)
            refine lv_iload hx hb d_M_chip_163 (lv_at hl 1 rfl) ?_
            refine lv_if_eq (tgt := 182) hx hb d_M_chip_165 (by decide) (fun c_165 => ?_) (fun c_165 => ?_)
            · refine lv_lload hx hb d_M_chip_182 (lv_at hl 4 rfl) ?_
              refine lv_goto (tgt := 191) hx hb d_M_chip_184 (by decide) ?_
              refine lv_l2i hx hb d_M_chip_191 rfl ?_
              refine lv_topi (fun x_234 ex_234 => ?_)
              have hrv : x_234 = nI x := by rw [ex_234, lN_i]
              exact m_iret (v := x_234) hx hb hr hm (Or.inr (Or.inr (⟨Or.inl c_45, hcb, a, d, w, x, ea, ed, ew, ha, hw1, hw2, hdw, hx6, hlo, hup, by rw [if_pos (Or.inl c_165)]; exact hrv, by rw [hG]⟩))) d_M_chip_192 hlocks
            · refine lv_lload hx hb d_M_chip_168 (lv_at hl 4 rfl) ?_
              refine lv_lload hx hb d_M_chip_170 (lv_at hl 4 rfl) ?_
              refine lv_lmul hx hb d_M_chip_172 ?_
              refine lv_topl (fun x_235 ex_235 => ?_)
              refine lv_lload hx hb d_M_chip_173 (lv_at hl 3 rfl) ?_
              refine lv_lmul hx hb d_M_chip_175 ?_
              refine lv_topl (fun x_236 ex_236 => ?_)
              obtain rfl : x_236 = lN (x * x * (w * w)) := by rw [ex_236, ex_235, lN_mul, lN_mul]
              refine lv_lload hx hb d_M_chip_176 (lv_at hl 2 rfl) ?_
              refine W.lcmp hx hb d_M_chip_178 ?_
              refine lv_if_ne (tgt := 187) hx hb d_M_chip_179 (by decide) (fun c_179 => ?_) (fun c_179 => ?_)
              · have hq9 : ¬ x * x * (w * w) = 4 * a * a * d * (w - d) := fun q => c_179 ((lg_eq _ _).mpr (by rw [q]))
                refine lv_lload hx hb d_M_chip_187 (lv_at hl 4 rfl) ?_
                refine lv_lconst (v := 1) hx hb d_M_chip_189 (by decide) ?_
                refine lv_ladd hx hb d_M_chip_190 ?_
                refine lv_topl (fun x_237 ex_237 => ?_)
                refine lv_l2i hx hb d_M_chip_191 rfl ?_
                refine lv_topi (fun x_238 ex_238 => ?_)
                have hrv : x_238 = nI (x + 1) := by rw [ex_238, ex_237, lN_1, lN_i]
                exact m_iret (v := x_238) hx hb hr hm (Or.inr (Or.inr (⟨Or.inl c_45, hcb, a, d, w, x, ea, ed, ew, ha, hw1, hw2, hdw, hx6, hlo, hup, by rw [if_neg (fun h => h.elim c_165 hq9)]; exact hrv, by rw [hG]⟩))) d_M_chip_192 hlocks
              · have hq9 : x * x * (w * w) = 4 * a * a * d * (w - d) := (pk_lEQ (by omega) (by omega)).mp ((lg_eq _ _).mp c_179)
                refine lv_lload hx hb d_M_chip_182 (lv_at hl 4 rfl) ?_
                refine lv_goto (tgt := 191) hx hb d_M_chip_184 (by decide) ?_
                refine lv_l2i hx hb d_M_chip_191 rfl ?_
                refine lv_topi (fun x_239 ex_239 => ?_)
                have hrv : x_239 = nI x := by rw [ex_239, lN_i]
                exact m_iret (v := x_239) hx hb hr hm (Or.inr (Or.inr (⟨Or.inl c_45, hcb, a, d, w, x, ea, ed, ew, ha, hw1, hw2, hdw, hx6, hlo, hup, by rw [if_pos (Or.inr hq9)]; exact hrv, by rw [hG]⟩))) d_M_chip_192 hlocks
          · have h2 : 1 < y - x := by
              have h9 := c_121
              rw [hsub, show (1 : Int64) = lN 1 from rfl] at h9
              have h8 : lN 1 < lN (y - x) := Classical.not_not.mp (fun q => h9 ((lg_le _ _).mpr q))
              exact (pk_lLT (by omega) (by omega)).mp h8
            refine lv_lload hx hb d_M_chip_124 (lv_at hl 4 rfl) ?_
            refine lv_lload hx hb d_M_chip_126 (lv_at hl 5 rfl) ?_
            refine lv_ladd hx hb d_M_chip_128 ?_
            refine lv_topl (fun x_240 ex_240 => ?_)
            refine lv_ldc2 (v := 2) hx hb hown (hT _ k_780) d_M_chip_129 ?_
            refine lv_ldiv hx hb d_M_chip_132 (by decide) ?_
            refine lv_topl (fun x_241 ex_241 => ?_)
            obtain rfl : x_241 = lN ((x + y) / 2) := by
              rw [ex_241, ex_240, lN_add, show (2 : Int64) = lN 2 from rfl, pk_lDiv (by omega) (by decide) (by decide)]
            refine lv_lstore (lv' := [(14, .long (lN ((x + y) / 2))), (0, .ref (ad 1000)), (4, .int p3), (6, .long (lN (4 * a * a * d * (w - d)))), (8, .long (lN (w * w))), (10, .long (lN x)), (12, .long (lN y))]) hx hb d_M_chip_133 hl (by decide) rfl (fun ls hl => ?_)
            refine lv_lload hx hb d_M_chip_135 (lv_at hl 0 rfl) ?_
            refine lv_lload hx hb d_M_chip_137 (lv_at hl 0 rfl) ?_
            refine lv_lmul hx hb d_M_chip_139 ?_
            refine lv_topl (fun x_242 ex_242 => ?_)
            refine lv_lload hx hb d_M_chip_140 (lv_at hl 4 rfl) ?_
            refine lv_lmul hx hb d_M_chip_142 ?_
            refine lv_topl (fun x_243 ex_243 => ?_)
            obtain rfl : x_243 = lN (((x + y) / 2) * ((x + y) / 2) * (w * w)) := by rw [ex_243, ex_242, lN_mul, lN_mul]
            have hmb := bnd3 (show ((x + y) / 2) ≤ 1000001 by omega) (show ((x + y) / 2) ≤ 1000001 by omega) (bnd2 hw2 hw2)
            refine lv_lload hx hb d_M_chip_143 (lv_at hl 3 rfl) ?_
            refine W.lcmp hx hb d_M_chip_145 ?_
            refine lv_if_gt (tgt := 156) hx hb d_M_chip_146 (by decide) (fun c_146 => ?_) (fun c_146 => ?_)
            · have hmm : 4 * a * a * d * (w - d) < ((x + y) / 2) * ((x + y) / 2) * (w * w) := (pk_lLT (by omega) (by omega)).mp ((lg_gt _ _).mp c_146)
              refine lv_lload hx hb d_M_chip_156 (lv_at hl 0 rfl) ?_
              refine lv_lstore (lv' := [(12, .long (lN ((x + y) / 2))), (14, .long (lN ((x + y) / 2))), (0, .ref (ad 1000)), (4, .int p3), (6, .long (lN (4 * a * a * d * (w - d)))), (8, .long (lN (w * w))), (10, .long (lN x))]) hx hb d_M_chip_158 hl (by decide) rfl (fun ls hl => ?_)
              refine lv_goto (tgt := 114) hx hb d_M_chip_160 (by decide) ?_
              exact ih114 (x, ((x + y) / 2)) ls H locs (⟨by omega, by omega, by omega, hI4, hmm⟩) (lv_sub hl [2, 3, 4, 5, 6, 0] rfl) hm
            · have hmm : ((x + y) / 2) * ((x + y) / 2) * (w * w) ≤ 4 * a * a * d * (w - d) := by
                have h9 : ¬ lN (4 * a * a * d * (w - d)) < lN (((x + y) / 2) * ((x + y) / 2) * (w * w)) := fun q => c_146 ((lg_gt _ _).mpr q)
                rw [pk_lLT (by omega) (by omega)] at h9
                omega
              refine lv_lload hx hb d_M_chip_149 (lv_at hl 0 rfl) ?_
              refine lv_lstore (lv' := [(10, .long (lN ((x + y) / 2))), (14, .long (lN ((x + y) / 2))), (0, .ref (ad 1000)), (4, .int p3), (6, .long (lN (4 * a * a * d * (w - d)))), (8, .long (lN (w * w))), (12, .long (lN y))]) hx hb d_M_chip_151 hl (by decide) rfl (fun ls hl => ?_)
              refine lv_goto (tgt := 160) hx hb d_M_chip_153 (by decide) ?_
              refine lv_goto (tgt := 114) hx hb d_M_chip_160 (by decide) ?_
              exact ih114 (((x + y) / 2), y) ls H locs (⟨by omega, by omega, by omega, hmm, hI5⟩) (lv_sub hl [2, 3, 4, 5, 0, 6] rfl) hm
        · refine lv_iload hx hb d_M_chip_48 (lv_at hl 5 rfl) ?_
          refine lv_iconst (v := 1) hx hb d_M_chip_50 (by decide) ?_
          refine lv_icmp_eq (tgt := 58) hx hb d_M_chip_51 (by decide) (fun c_51 => ?_) (fun c_51 => ?_)
          · refine lv_iload hx hb d_M_chip_58 (lv_at hl 0 rfl) ?_
            refine lv_if_eq (tgt := 67) hx hb d_M_chip_60 (by decide) (fun c9 => absurd c9 (by decide)) (fun _ => ?_)
            refine lv_iconst (v := 0) hx hb d_M_chip_63 (by decide) ?_
            refine lv_goto (tgt := 68) hx hb d_M_chip_64 (by decide) ?_
            refine m_put (v := .int 0) (ty := .int) (C := R_M) (T := T_M) (N := 28) hx hb hT in_M t_M tok_M nm_M hown hC.1 hm 1000 rfl ((congrFun hG 1000).trans gM_o) rfl 0 (by decide) (hT _ k_590) (fun _ h9 => h9) rfl (by decide +kernel) rfl rfl (Nat.le_of_ble_eq_true rfl) d_M_chip_68 (fun H locs hm => ?_)
            obtain ⟨G_244, eG_244⟩ : ∃ z : mG, z = va_up G 1000 (some (.inr (6, [.int 0, .long sd, .int (S 2), .ref (ad 1003), .ref (ad 1004), .ref (ad 1005), .ref (ad 1006), .ref (ad 1007), .ref (ad 1008), .ref (ad 1009), .ref (ad 1010), .ref (ad 1011), .ref (ad 1012), .ref (ad 1013), .ref (ad 1014), .ref (ad 1015), .ref (ad 1016), .int (S 17), .int (S 18), .int (S 19), .int (S 20), .ref (ad 1021), .ref (ad 1022), .ref (ad 1023), .ref (ad 1024), .ref (ad 1025), .int (S 26), .int (S 27)]))) := ⟨_, rfl⟩
            have hm : mS D mCl (mA ad G s.heap.size) s.heap ad G_244 H locs := by rw [eG_244]; exact hm
            have g_245 : G_244 1000 = some (.inr (6, [.int 0, .long sd, .int (S 2), .ref (ad 1003), .ref (ad 1004), .ref (ad 1005), .ref (ad 1006), .ref (ad 1007), .ref (ad 1008), .ref (ad 1009), .ref (ad 1010), .ref (ad 1011), .ref (ad 1012), .ref (ad 1013), .ref (ad 1014), .ref (ad 1015), .ref (ad 1016), .int (S 17), .int (S 18), .int (S 19), .int (S 20), .ref (ad 1021), .ref (ad 1022), .ref (ad 1023), .ref (ad 1024), .ref (ad 1025), .int (S 26), .int (S 27)])) := by rw [eG_244, va_up_self]
            have g_246 := (congrFun eG_244 1003).trans ((va_up_ne _ _ (by decide)).trans ((congrFun hG 1003).trans gM_3))
            have g_247 := (congrFun eG_244 1004).trans ((va_up_ne _ _ (by decide)).trans ((congrFun hG 1004).trans gM_4))
            have g_248 := (congrFun eG_244 1005).trans ((va_up_ne _ _ (by decide)).trans ((congrFun hG 1005).trans gM_5))
            have g_249 := (congrFun eG_244 1006).trans ((va_up_ne _ _ (by decide)).trans ((congrFun hG 1006).trans gM_6))
            have g_250 := (congrFun eG_244 1007).trans ((va_up_ne _ _ (by decide)).trans ((congrFun hG 1007).trans gM_7))
            have g_251 := (congrFun eG_244 1008).trans ((va_up_ne _ _ (by decide)).trans ((congrFun hG 1008).trans gM_8))
            have g_252 := (congrFun eG_244 1009).trans ((va_up_ne _ _ (by decide)).trans ((congrFun hG 1009).trans gM_9))
            have g_253 := (congrFun eG_244 1010).trans ((va_up_ne _ _ (by decide)).trans ((congrFun hG 1010).trans gM_10))
            have g_254 := (congrFun eG_244 1011).trans ((va_up_ne _ _ (by decide)).trans ((congrFun hG 1011).trans gM_11))
            have g_255 := (congrFun eG_244 1012).trans ((va_up_ne _ _ (by decide)).trans ((congrFun hG 1012).trans gM_12))
            have g_256 := (congrFun eG_244 1013).trans ((va_up_ne _ _ (by decide)).trans ((congrFun hG 1013).trans gM_13))
            have g_257 := (congrFun eG_244 1014).trans ((va_up_ne _ _ (by decide)).trans ((congrFun hG 1014).trans gM_14))
            have g_258 := (congrFun eG_244 1015).trans ((va_up_ne _ _ (by decide)).trans ((congrFun hG 1015).trans gM_15))
            have g_259 := (congrFun eG_244 1016).trans ((va_up_ne _ _ (by decide)).trans ((congrFun hG 1016).trans gM_16))
            have g_260 := (congrFun eG_244 1021).trans ((va_up_ne _ _ (by decide)).trans ((congrFun hG 1021).trans gM_21))
            have g_261 := (congrFun eG_244 1022).trans ((va_up_ne _ _ (by decide)).trans ((congrFun hG 1022).trans gM_22))
            have g_262 := (congrFun eG_244 1023).trans ((va_up_ne _ _ (by decide)).trans ((congrFun hG 1023).trans gM_23))
            have g_263 := (congrFun eG_244 1024).trans ((va_up_ne _ _ (by decide)).trans ((congrFun hG 1024).trans gM_24))
            have g_264 := (congrFun eG_244 1025).trans ((va_up_ne _ _ (by decide)).trans ((congrFun hG 1025).trans gM_25))
            have hG : G_244 = gM dA ad A B (va_up S 0 0) sd G0 := by rw [eG_244, hG]; exact gM_uo (va_up S 0 0)
            refine lv_aload_n hx hb d_M_chip_71 rfl (lv_at hl 1 rfl) ?_
            refine m_get (v := .int 0) (C := R_M) (T := T_M) (N := 28) hx hb hT in_M hown hC.1 hm 1000 rfl g_245 rfl 0 (by decide) (hT _ k_590) (fun _ h9 => h9) rfl d_M_chip_72 ?_
            refine lv_if_le (tgt := 80) hx hb d_M_chip_75 (by decide) (fun _ => ?_) (fun c9 => absurd (by decide) c9)
            have hr0 : ¬ (p0 < 0 ∨ 1000000 < p0) := (inJ (p := p0) (lo := 0) (hi := 1000000) (a := 0) (b := 1000000) (by decide) (by decide)).mp (by have h9 := bv_ne w_3 c_9; rw [ex_1] at h9; exact h9)
            have hr1 : ¬ (p2 < 1 ∨ 1000 < p2) := (inJ (p := p2) (lo := 1) (hi := 1000) (a := 1) (b := 1000) (by decide) (by decide)).mp (by have h9 := bv_ne w_69 c_21; rw [ex_67] at h9; exact h9)
            have hr2 : ¬ (p1 < 0 ∨ p2 < p1) := (inJ (p := p1) (lo := 0) (hi := p2) (a := 0) (b := p2.toInt64) (by decide) rfl).mp (by have h9 := bv_ne w_136 c_32; rw [ex_133, ex_134] at h9; exact h9)
            have hcb : ¬ (p0 < 0 ∨ 1000000 < p0 ∨ p2 < 1 ∨ 1000 < p2 ∨ p1 < 0 ∨ p2 < p1) := fun h => h.elim (fun h => hr0 (Or.inl h)) (fun h => h.elim (fun h => hr0 (Or.inr h)) (fun h => h.elim (fun h => hr1 (Or.inl h)) (fun h => h.elim (fun h => hr1 (Or.inr h)) (hr2))))
            obtain ⟨a, ha, ea⟩ := nI_of2 (M := 1000000) (n := 1000000) rfl (fun h => hr0 (Or.inl h)) (Int32.not_lt.mp (fun h => hr0 (Or.inr h)))
            obtain ⟨w, hw2, ew⟩ := nI_of2 (M := 1000) (n := 1000) rfl (fun h => hr1 (Or.inl (lt01 h))) (Int32.not_lt.mp (fun h => hr1 (Or.inr h)))
            obtain ⟨d, hd31, ed⟩ := nI_of (x := p1) (fun h => hr2 (Or.inl h))
            have hdw : d ≤ w := by
              have h9 := Int32.not_lt.mp (fun h => hr2 (Or.inr h))
              rw [ed, ew] at h9
              exact (nI_leI (by omega) (by omega)).mp h9
            have hw1 : 1 ≤ w := by
              have h9 : ¬ w = 0 := fun q => hr1 (Or.inl (by rw [ew, q]; decide))
              omega
            have hsq := sq_le (a := a) hdw
            have hb18 := bnd3 ha ha (bnd2 hw2 hw2)
            refine lv_ldc2 (v := 4) hx hb hown (hT _ k_772) d_M_chip_80 ?_
            refine lv_iload_n hx hb d_M_chip_83 rfl (lv_at hl 2 rfl) ?_
            refine lv_i2l hx hb d_M_chip_84 rfl ?_
            refine lv_topl (fun x_265 ex_265 => ?_)
            refine lv_lmul hx hb d_M_chip_85 ?_
            refine lv_topl (fun x_266 ex_266 => ?_)
            refine lv_iload_n hx hb d_M_chip_86 rfl (lv_at hl 2 rfl) ?_
            refine lv_i2l hx hb d_M_chip_87 rfl ?_
            refine lv_topl (fun x_267 ex_267 => ?_)
            refine lv_lmul hx hb d_M_chip_88 ?_
            refine lv_topl (fun x_268 ex_268 => ?_)
            refine lv_iload_n hx hb d_M_chip_89 rfl (lv_at hl 3 rfl) ?_
            refine lv_i2l hx hb d_M_chip_90 rfl ?_
            refine lv_topl (fun x_269 ex_269 => ?_)
            refine lv_lmul hx hb d_M_chip_91 ?_
            refine lv_topl (fun x_270 ex_270 => ?_)
            refine lv_iload_n hx hb d_M_chip_92 rfl (lv_at hl 4 rfl) ?_
            refine lv_iload_n hx hb d_M_chip_93 rfl (lv_at hl 3 rfl) ?_
            refine lv_isub hx hb d_M_chip_94 ?_
            refine lv_topi (fun x_271 ex_271 => ?_)
            refine lv_i2l hx hb d_M_chip_95 rfl ?_
            refine lv_topl (fun x_272 ex_272 => ?_)
            refine lv_lmul hx hb d_M_chip_96 ?_
            refine lv_topl (fun x_273 ex_273 => ?_)
            obtain rfl : x_273 = lN (4 * a * a * d * (w - d)) := by
              rw [ex_273, ex_272, ex_271, ex_270, ex_269, ex_268, ex_267, ex_266, ex_265, ea, ed, ew, pk_sub hdw, nI_l (by omega), nI_l (by omega), nI_l (by omega), show (4 : Int64) = lN 4 from rfl, lN_mul, lN_mul, lN_mul, lN_mul]
            refine lv_lstore (lv' := [(6, .long (lN (4 * a * a * d * (w - d)))), (5, .int 1), (0, .ref (ad 1000)), (1, .int p0), (2, .int p1), (3, .int p2), (4, .int p3)]) hx hb d_M_chip_97 hl (by decide) rfl (fun ls hl => ?_)
            refine lv_iload_n hx hb d_M_chip_99 rfl (lv_at hl 5 rfl) ?_
            refine lv_i2l hx hb d_M_chip_100 rfl ?_
            refine lv_topl (fun x_274 ex_274 => ?_)
            refine lv_iload_n hx hb d_M_chip_101 rfl (lv_at hl 5 rfl) ?_
            refine lv_i2l hx hb d_M_chip_102 rfl ?_
            refine lv_topl (fun x_275 ex_275 => ?_)
            refine lv_lmul hx hb d_M_chip_103 ?_
            refine lv_topl (fun x_276 ex_276 => ?_)
            obtain rfl : x_276 = lN (w * w) := by
              rw [ex_276, ex_275, ex_274, ew, nI_l (by omega), lN_mul]
            refine lv_lstore (lv' := [(8, .long (lN (w * w))), (6, .long (lN (4 * a * a * d * (w - d)))), (5, .int 1), (0, .ref (ad 1000)), (1, .int p0), (2, .int p1), (3, .int p2), (4, .int p3)]) hx hb d_M_chip_104 hl (by decide) rfl (fun ls hl => ?_)
            refine lv_lconst (v := 0) hx hb d_M_chip_106 (by decide) ?_
            refine lv_lstore (lv' := [(10, .long 0), (8, .long (lN (w * w))), (6, .long (lN (4 * a * a * d * (w - d)))), (5, .int 1), (0, .ref (ad 1000)), (1, .int p0), (2, .int p1), (3, .int p2), (4, .int p3)]) hx hb d_M_chip_107 hl (by decide) rfl (fun ls hl => ?_)
            refine lv_ldc2 (v := 1000001) hx hb hown (hT _ k_818) d_M_chip_109 ?_
            refine lv_lstore (lv' := [(12, .long 1000001), (10, .long 0), (8, .long (lN (w * w))), (6, .long (lN (4 * a * a * d * (w - d)))), (5, .int 1), (0, .ref (ad 1000)), (1, .int p0), (2, .int p1), (3, .int p2), (4, .int p3)]) hx hb d_M_chip_112 hl (by decide) rfl (fun ls hl => ?_)
            have hup0 : 4 * a * a * d * (w - d) < 1000001 * 1000001 * (w * w) := top_lt ha hw1 hsq
            refine m_loopH (nL := 16) (head := 114) (fun (q9 : Nat) => fun (x : Nat × Nat) => match x with | (x, y) => y ≤ x + q9 ∧ x < y ∧ y ≤ 1000001 ∧ x * x * (w * w) ≤ 4 * a * a * d * (w - d) ∧ 4 * a * a * d * (w - d) < y * y * (w * w)) (fun (x : Nat × Nat) => match x with | (x, y) => [(0, .ref (ad 1000)), (4, .int p3), (6, .long (lN (4 * a * a * d * (w - d)))), (8, .long (lN (w * w))), (10, .long (lN x)), (12, .long (lN y))]) (fun _ => G_244) (fun ⟨x, y⟩ h => by have h1 := h.1; have h2 := h.2.1; omega) (fun q9 x ls H locs hI hl hm ih114 => ?_) (1000001) (0, 1000001) (⟨by omega, by omega, by omega, by simp, hup0⟩) (lv_sub hl [5, 9, 3, 2, 1, 0] rfl) hm
            obtain ⟨x, y⟩ := x
            replace hI : (fun (q9 : Nat) => y ≤ x + q9 ∧ x < y ∧ y ≤ 1000001 ∧ x * x * (w * w) ≤ 4 * a * a * d * (w - d) ∧ 4 * a * a * d * (w - d) < y * y * (w * w)) (q9 + 1) := hI
            have hl : lv_has ls 16 [(0, .ref (ad 1000)), (4, .int p3), (6, .long (lN (4 * a * a * d * (w - d)))), (8, .long (lN (w * w))), (10, .long (lN x)), (12, .long (lN y))] := hl
            have hI3 : y ≤ 1000001 := hI.2.2.1
            have hI4 : x * x * (w * w) ≤ 4 * a * a * d * (w - d) := hI.2.2.2.1
            have hI5 : 4 * a * a * d * (w - d) < y * y * (w * w) := hI.2.2.2.2
            refine lv_lload hx hb d_M_chip_114 (lv_at hl 5 rfl) ?_
            refine lv_lload hx hb d_M_chip_116 (lv_at hl 4 rfl) ?_
            refine lv_lsub hx hb d_M_chip_118 ?_
            refine lv_topl (fun x_277 ex_277 => ?_)
            have hsub : x_277 = lN (y - x) := by rw [ex_277, lN_sub (by omega)]
            refine lv_lconst (v := 1) hx hb d_M_chip_119 (by decide) ?_
            refine W.lcmp hx hb d_M_chip_120 ?_
            refine lv_if_le (tgt := 163) hx hb d_M_chip_121 (by decide) (fun c_121 => ?_) (fun c_121 => ?_)
            · have hyx : y = x + 1 := by
                have h9 := (lg_le _ _).mp c_121
                rw [hsub, show (1 : Int64) = lN 1 from rfl, pk_lLT (by omega) (by omega)] at h9
                omega
              subst hyx
              have hlo := hI4
              have hup := hI5
              have hx6 : x ≤ 1000000 := by omega
              have hxb := bnd3 (show x ≤ 1000001 by omega) (show x ≤ 1000001 by omega) (bnd2 hw2 hw2)
              refine lv_iload hx hb d_M_chip_163 (lv_at hl 1 rfl) ?_
              refine lv_if_eq (tgt := 182) hx hb d_M_chip_165 (by decide) (fun c_165 => ?_) (fun c_165 => ?_)
              · refine lv_lload hx hb d_M_chip_182 (lv_at hl 4 rfl) ?_
                refine lv_goto (tgt := 191) hx hb d_M_chip_184 (by decide) ?_
                refine lv_l2i hx hb d_M_chip_191 rfl ?_
                refine lv_topi (fun x_278 ex_278 => ?_)
                have hrv : x_278 = nI x := by rw [ex_278, lN_i]
                exact m_iret (v := x_278) hx hb hr hm (Or.inr (Or.inr (⟨Or.inr c_51, hcb, a, d, w, x, ea, ed, ew, ha, hw1, hw2, hdw, hx6, hlo, hup, by rw [if_pos (Or.inl c_165)]; exact hrv, by rw [hG]⟩))) d_M_chip_192 hlocks
              · refine lv_lload hx hb d_M_chip_168 (lv_at hl 4 rfl) ?_
                refine lv_lload hx hb d_M_chip_170 (lv_at hl 4 rfl) ?_
                refine lv_lmul hx hb d_M_chip_172 ?_
                refine lv_topl (fun x_279 ex_279 => ?_)
                refine lv_lload hx hb d_M_chip_173 (lv_at hl 3 rfl) ?_
                refine lv_lmul hx hb d_M_chip_175 ?_
                refine lv_topl (fun x_280 ex_280 => ?_)
                obtain rfl : x_280 = lN (x * x * (w * w)) := by rw [ex_280, ex_279, lN_mul, lN_mul]
                refine lv_lload hx hb d_M_chip_176 (lv_at hl 2 rfl) ?_
                refine W.lcmp hx hb d_M_chip_178 ?_
                refine lv_if_ne (tgt := 187) hx hb d_M_chip_179 (by decide) (fun c_179 => ?_) (fun c_179 => ?_)
                · have hq9 : ¬ x * x * (w * w) = 4 * a * a * d * (w - d) := fun q => c_179 ((lg_eq _ _).mpr (by rw [q]))
                  refine lv_lload hx hb d_M_chip_187 (lv_at hl 4 rfl) ?_
                  refine lv_lconst (v := 1) hx hb d_M_chip_189 (by decide) ?_
                  refine lv_ladd hx hb d_M_chip_190 ?_
                  refine lv_topl (fun x_281 ex_281 => ?_)
                  refine lv_l2i hx hb d_M_chip_191 rfl ?_
                  refine lv_topi (fun x_282 ex_282 => ?_)
                  have hrv : x_282 = nI (x + 1) := by rw [ex_282, ex_281, lN_1, lN_i]
                  exact m_iret (v := x_282) hx hb hr hm (Or.inr (Or.inr (⟨Or.inr c_51, hcb, a, d, w, x, ea, ed, ew, ha, hw1, hw2, hdw, hx6, hlo, hup, by rw [if_neg (fun h => h.elim c_165 hq9)]; exact hrv, by rw [hG]⟩))) d_M_chip_192 hlocks
                · have hq9 : x * x * (w * w) = 4 * a * a * d * (w - d) := (pk_lEQ (by omega) (by omega)).mp ((lg_eq _ _).mp c_179)
                  refine lv_lload hx hb d_M_chip_182 (lv_at hl 4 rfl) ?_
                  refine lv_goto (tgt := 191) hx hb d_M_chip_184 (by decide) ?_
                  refine lv_l2i hx hb d_M_chip_191 rfl ?_
                  refine lv_topi (fun x_283 ex_283 => ?_)
                  have hrv : x_283 = nI x := by rw [ex_283, lN_i]
                  exact m_iret (v := x_283) hx hb hr hm (Or.inr (Or.inr (⟨Or.inr c_51, hcb, a, d, w, x, ea, ed, ew, ha, hw1, hw2, hdw, hx6, hlo, hup, by rw [if_pos (Or.inr hq9)]; exact hrv, by rw [hG]⟩))) d_M_chip_192 hlocks
            · have h2 : 1 < y - x := by
                have h9 := c_121
                rw [hsub, show (1 : Int64) = lN 1 from rfl] at h9
                have h8 : lN 1 < lN (y - x) := Classical.not_not.mp (fun q => h9 ((lg_le _ _).mpr q))
                exact (pk_lLT (by omega) (by omega)).mp h8
              refine lv_lload hx hb d_M_chip_124 (lv_at hl 4 rfl) ?_
              refine lv_lload hx hb d_M_chip_126 (lv_at hl 5 rfl) ?_
              refine lv_ladd hx hb d_M_chip_128 ?_
              refine lv_topl (fun x_284 ex_284 => ?_)
              refine lv_ldc2 (v := 2) hx hb hown (hT _ k_780) d_M_chip_129 ?_
              refine lv_ldiv hx hb d_M_chip_132 (by decide) ?_
              refine lv_topl (fun x_285 ex_285 => ?_)
              obtain rfl : x_285 = lN ((x + y) / 2) := by
                rw [ex_285, ex_284, lN_add, show (2 : Int64) = lN 2 from rfl, pk_lDiv (by omega) (by decide) (by decide)]
              refine lv_lstore (lv' := [(14, .long (lN ((x + y) / 2))), (0, .ref (ad 1000)), (4, .int p3), (6, .long (lN (4 * a * a * d * (w - d)))), (8, .long (lN (w * w))), (10, .long (lN x)), (12, .long (lN y))]) hx hb d_M_chip_133 hl (by decide) rfl (fun ls hl => ?_)
              refine lv_lload hx hb d_M_chip_135 (lv_at hl 0 rfl) ?_
              refine lv_lload hx hb d_M_chip_137 (lv_at hl 0 rfl) ?_
              refine lv_lmul hx hb d_M_chip_139 ?_
              refine lv_topl (fun x_286 ex_286 => ?_)
              refine lv_lload hx hb d_M_chip_140 (lv_at hl 4 rfl) ?_
              refine lv_lmul hx hb d_M_chip_142 ?_
              refine lv_topl (fun x_287 ex_287 => ?_)
              obtain rfl : x_287 = lN (((x + y) / 2) * ((x + y) / 2) * (w * w)) := by rw [ex_287, ex_286, lN_mul, lN_mul]
              have hmb := bnd3 (show ((x + y) / 2) ≤ 1000001 by omega) (show ((x + y) / 2) ≤ 1000001 by omega) (bnd2 hw2 hw2)
              refine lv_lload hx hb d_M_chip_143 (lv_at hl 3 rfl) ?_
              refine W.lcmp hx hb d_M_chip_145 ?_
              refine lv_if_gt (tgt := 156) hx hb d_M_chip_146 (by decide) (fun c_146 => ?_) (fun c_146 => ?_)
              · have hmm : 4 * a * a * d * (w - d) < ((x + y) / 2) * ((x + y) / 2) * (w * w) := (pk_lLT (by omega) (by omega)).mp ((lg_gt _ _).mp c_146)
                refine lv_lload hx hb d_M_chip_156 (lv_at hl 0 rfl) ?_
                refine lv_lstore (lv' := [(12, .long (lN ((x + y) / 2))), (14, .long (lN ((x + y) / 2))), (0, .ref (ad 1000)), (4, .int p3), (6, .long (lN (4 * a * a * d * (w - d)))), (8, .long (lN (w * w))), (10, .long (lN x))]) hx hb d_M_chip_158 hl (by decide) rfl (fun ls hl => ?_)
                refine lv_goto (tgt := 114) hx hb d_M_chip_160 (by decide) ?_
                exact ih114 (x, ((x + y) / 2)) ls H locs (⟨by omega, by omega, by omega, hI4, hmm⟩) (lv_sub hl [2, 3, 4, 5, 6, 0] rfl) hm
              · have hmm : ((x + y) / 2) * ((x + y) / 2) * (w * w) ≤ 4 * a * a * d * (w - d) := by
                  have h9 : ¬ lN (4 * a * a * d * (w - d)) < lN (((x + y) / 2) * ((x + y) / 2) * (w * w)) := fun q => c_146 ((lg_gt _ _).mpr q)
                  rw [pk_lLT (by omega) (by omega)] at h9
                  omega
                refine lv_lload hx hb d_M_chip_149 (lv_at hl 0 rfl) ?_
                refine lv_lstore (lv' := [(10, .long (lN ((x + y) / 2))), (14, .long (lN ((x + y) / 2))), (0, .ref (ad 1000)), (4, .int p3), (6, .long (lN (4 * a * a * d * (w - d)))), (8, .long (lN (w * w))), (12, .long (lN y))]) hx hb d_M_chip_151 hl (by decide) rfl (fun ls hl => ?_)
                refine lv_goto (tgt := 160) hx hb d_M_chip_153 (by decide) ?_
                refine lv_goto (tgt := 114) hx hb d_M_chip_160 (by decide) ?_
                exact ih114 (((x + y) / 2), y) ls H locs (⟨by omega, by omega, by omega, hmm, hI5⟩) (lv_sub hl [2, 3, 4, 5, 0, 6] rfl) hm
          · refine lv_iconst (v := 1) hx hb d_M_chip_54 (by decide) ?_
            refine lv_goto (tgt := 68) hx hb d_M_chip_55 (by decide) ?_
            refine m_put (v := .int 1) (ty := .int) (C := R_M) (T := T_M) (N := 28) hx hb hT in_M t_M tok_M nm_M hown hC.1 hm 1000 rfl ((congrFun hG 1000).trans gM_o) rfl 0 (by decide) (hT _ k_590) (fun _ h9 => h9) rfl (by decide +kernel) rfl rfl (Nat.le_of_ble_eq_true rfl) d_M_chip_68 (fun H locs hm => ?_)
            obtain ⟨G_288, eG_288⟩ : ∃ z : mG, z = va_up G 1000 (some (.inr (6, [.int 1, .long sd, .int (S 2), .ref (ad 1003), .ref (ad 1004), .ref (ad 1005), .ref (ad 1006), .ref (ad 1007), .ref (ad 1008), .ref (ad 1009), .ref (ad 1010), .ref (ad 1011), .ref (ad 1012), .ref (ad 1013), .ref (ad 1014), .ref (ad 1015), .ref (ad 1016), .int (S 17), .int (S 18), .int (S 19), .int (S 20), .ref (ad 1021), .ref (ad 1022), .ref (ad 1023), .ref (ad 1024), .ref (ad 1025), .int (S 26), .int (S 27)]))) := ⟨_, rfl⟩
            have hm : mS D mCl (mA ad G s.heap.size) s.heap ad G_288 H locs := by rw [eG_288]; exact hm
            have g_289 : G_288 1000 = some (.inr (6, [.int 1, .long sd, .int (S 2), .ref (ad 1003), .ref (ad 1004), .ref (ad 1005), .ref (ad 1006), .ref (ad 1007), .ref (ad 1008), .ref (ad 1009), .ref (ad 1010), .ref (ad 1011), .ref (ad 1012), .ref (ad 1013), .ref (ad 1014), .ref (ad 1015), .ref (ad 1016), .int (S 17), .int (S 18), .int (S 19), .int (S 20), .ref (ad 1021), .ref (ad 1022), .ref (ad 1023), .ref (ad 1024), .ref (ad 1025), .int (S 26), .int (S 27)])) := by rw [eG_288, va_up_self]
            have g_290 := (congrFun eG_288 1003).trans ((va_up_ne _ _ (by decide)).trans ((congrFun hG 1003).trans gM_3))
            have g_291 := (congrFun eG_288 1004).trans ((va_up_ne _ _ (by decide)).trans ((congrFun hG 1004).trans gM_4))
            have g_292 := (congrFun eG_288 1005).trans ((va_up_ne _ _ (by decide)).trans ((congrFun hG 1005).trans gM_5))
            have g_293 := (congrFun eG_288 1006).trans ((va_up_ne _ _ (by decide)).trans ((congrFun hG 1006).trans gM_6))
            have g_294 := (congrFun eG_288 1007).trans ((va_up_ne _ _ (by decide)).trans ((congrFun hG 1007).trans gM_7))
            have g_295 := (congrFun eG_288 1008).trans ((va_up_ne _ _ (by decide)).trans ((congrFun hG 1008).trans gM_8))
            have g_296 := (congrFun eG_288 1009).trans ((va_up_ne _ _ (by decide)).trans ((congrFun hG 1009).trans gM_9))
            have g_297 := (congrFun eG_288 1010).trans ((va_up_ne _ _ (by decide)).trans ((congrFun hG 1010).trans gM_10))
            have g_298 := (congrFun eG_288 1011).trans ((va_up_ne _ _ (by decide)).trans ((congrFun hG 1011).trans gM_11))
            have g_299 := (congrFun eG_288 1012).trans ((va_up_ne _ _ (by decide)).trans ((congrFun hG 1012).trans gM_12))
            have g_300 := (congrFun eG_288 1013).trans ((va_up_ne _ _ (by decide)).trans ((congrFun hG 1013).trans gM_13))
            have g_301 := (congrFun eG_288 1014).trans ((va_up_ne _ _ (by decide)).trans ((congrFun hG 1014).trans gM_14))
            have g_302 := (congrFun eG_288 1015).trans ((va_up_ne _ _ (by decide)).trans ((congrFun hG 1015).trans gM_15))
            have g_303 := (congrFun eG_288 1016).trans ((va_up_ne _ _ (by decide)).trans ((congrFun hG 1016).trans gM_16))
            have g_304 := (congrFun eG_288 1021).trans ((va_up_ne _ _ (by decide)).trans ((congrFun hG 1021).trans gM_21))
            have g_305 := (congrFun eG_288 1022).trans ((va_up_ne _ _ (by decide)).trans ((congrFun hG 1022).trans gM_22))
            have g_306 := (congrFun eG_288 1023).trans ((va_up_ne _ _ (by decide)).trans ((congrFun hG 1023).trans gM_23))
            have g_307 := (congrFun eG_288 1024).trans ((va_up_ne _ _ (by decide)).trans ((congrFun hG 1024).trans gM_24))
            have g_308 := (congrFun eG_288 1025).trans ((va_up_ne _ _ (by decide)).trans ((congrFun hG 1025).trans gM_25))
            have hG : G_288 = gM dA ad A B (va_up S 0 1) sd G0 := by rw [eG_288, hG]; exact gM_uo (va_up S 0 1)
            refine lv_aload_n hx hb d_M_chip_71 rfl (lv_at hl 1 rfl) ?_
            refine m_get (v := .int 1) (C := R_M) (T := T_M) (N := 28) hx hb hT in_M hown hC.1 hm 1000 rfl g_289 rfl 0 (by decide) (hT _ k_590) (fun _ h9 => h9) rfl d_M_chip_72 ?_
            refine lv_if_le (tgt := 80) hx hb d_M_chip_75 (by decide) (fun c9 => absurd c9 (by decide)) (fun _ => ?_)
            refine lv_iconst (v := 0) hx hb d_M_chip_78 (by decide) ?_
            exact m_iret (v := 0) hx hb hr hm (Or.inl ⟨fun h => h.elim c_45 c_51, by rw [hG]⟩) d_M_chip_79 hlocks
