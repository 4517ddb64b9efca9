set_option maxHeartbeats 4000000 in
set_option maxRecDepth 100000 in
theorem c_E_order (l : Launch) (hlt : l.stackTraces = false) (D : va_G) (dA : Nat → ClassId) (ad : Nat → Nat) (G : mG) (sz : Nat) (I : Nat → Nat → Int32) (J : Nat → Nat → Int64) (F : Nat → Nat → Nat → Int32) (si : Nat → Nat) (tc oc : Nat) (G0 : mG) (hG : G = gE dA ad I J F si tc oc G0) (ht : tc ≤ 12) (ho : oc ≤ 16) (hs : ∀ i, i < tc → si i < 4) (p0 p1 : Int32) : vx_Met l y_E_order (.code y_E_order b_E_order 4 (some .boolean) :: mBig) ({ frames := 7, cells := 2, slots := 12, locals := 104 }) (mPc [.ref (ad 0), .int p0, .int p1] D mCl (mTys dA) mTx ad G sz) (mQi (fun (rv : Int32) (u : mU) => (∃ i, i < tc ∧ p0 = nI i ∧ ¬ (p1 < 0 ∨ 10000 < p1) ∧ ((oc = 16 ∧ rv = 0 ∧ u = (ad, gE dA ad I J F si tc oc G0)) ∨ (oc < 16 ∧ rv = 1 ∧ ∃ q : Nat, u = (va_up ad (400 + oc) q, gE dA (va_up ad (400 + oc) q) (up2 (up2 (up2 I 11 oc (nI (si i))) 12 oc p1) 13 oc 0) J F si tc (oc + 1) G0))))) D mCl ad G sz) (mXC (fun (E : String) (u : mU) => ((E = "java/lang/IndexOutOfBoundsException" ∧ ¬ (∃ i, i < tc ∧ p0 = nI i)) ∨ (E = "java/lang/IllegalArgumentException" ∧ (∃ i, i < tc ∧ p0 = nI i) ∧ (p1 < 0 ∨ 10000 < p1))) ∧ u = (ad, G)) D mCl ad G sz) 2 12 (mA ad G sz) := by
  refine vx_ofW (cc := b_E_order) (maxL := 4) (ret := (some .boolean)) (by decide) rfl ?_
  intro p e s m args below meth c s₁ B hml hout hv
  obtain ⟨rfl, hsz, hw0, hC⟩ := hv
  have hx := B.exec
  have hb := B.bytes
  have hr := B.returns
  have hts := atoms_spec (ws := .code y_E_order b_E_order 4 (some .boolean) :: mBig) B.pre
  have hT : ∀ w ∈ mBig, w.before _ s = true := fun w h => hts w (List.mem_cons_of_mem _ h)
  have hown : s.vm.findClass "EdgeWear" = some m.cls := findClass_of_methodNamed B.named
  have hlocks := B.notSynchronized
  subst hsz
  have hm := mS.start hw0
  have hA : ∀ q : Nat, s.heap.size ≤ q → mA ad G s.heap.size q := fun q h => Or.inr h
  have hl := lv_entry ([.ref (ad 0), .int p0, .int p1]) (n := 4) (Nat.le_of_ble_eq_true rfl)
  rw [lg_entry_eq]
  generalize (lg_sl ([.ref (ad 0), .int p0, .int p1]) ++ List.replicate (4 - (lg_sl ([.ref (ad 0), .int p0, .int p1])).length) Slot.unset).toArray = ls at hl ⊢
  have hl : lv_has ls 4 [(0, .ref (ad 0)), (1, .int p0), (2, .int p1)] := hl
  refine lv_aload_n hx hb d_E_order_0 rfl (lv_at hl 0 rfl) ?_
  refine lv_iload_n hx hb d_E_order_1 rfl (lv_at hl 1 rfl) ?_
  refine x_roq (x_runV (As := [.int p0]) (rest := []) ⟨hx, hb, hml, hown, hts⟩ (c_E_toolAt l hlt D dA ad G s.heap.size I J F si tc oc G0 hG ht p0) (cwV 1 hts (gV k_323 k_320 k_322 ks_2 k_1) rfl rfl rfl (by decide +kernel) ⟨Nat.le_of_ble_eq_true rfl, Nat.le_of_ble_eq_true rfl⟩) hm hA hC 0 rfl ((congrFun hG 0).trans gE_c0) rfl rfl rfl hl.1 rfl (Nat.le_of_ble_eq_true rfl) d_E_order_2 ⟨Nat.le_of_ble_eq_true rfl, Nat.le_of_ble_eq_true rfl⟩) hm hA (fun E ce q9 H locs w_2 hm h7 h8 h9 => ?_) (fun r_1 H locs w_2 hm => ?_)
  · exact m_out hout hlocks hm h7 h8 h9 (by
      obtain ⟨rfl, hq⟩ := w_2
      exact ⟨Or.inl ⟨rfl, hq⟩, rfl⟩) (by decide) (by decide)
  · obtain ⟨i, hi, epi, er⟩ := w_2
    subst er
    rw [show va_rf (some (ad (100 + i))) = .ref (ad (100 + i)) from rfl]
    refine lv_astore_n (lv' := [(3, .ref (ad (100 + i))), (0, .ref (ad 0)), (1, .int p0), (2, .int p1)]) hx hb d_E_order_5 rfl hl (by decide) rfl (fun ls hl => ?_)
    refine lv_iload_n hx hb d_E_order_6 rfl (lv_at hl 3 rfl) ?_
    refine lv_if_lt (tgt := 17) hx hb d_E_order_7 (by decide) (fun c_7 => ?_) (fun c_7 => ?_)
    · exact m_throwS (cls := "java/lang/IllegalArgumentException") (text := "day is not 0 .. 10000") (names := ["java/lang/RuntimeException", "java/lang/Exception"]) (tx := mTx) hx hb hlt hown (by decide +kernel) (by decide +kernel) (hT _ k_202) (hT _ k_9) (by decide +kernel) hC (at_IllegalArgumentException hT hC.2.2.2) (good_IllegalArgumentException) hm (hl.1.trans hml.symm) d_E_order_17 d_E_order_20 d_E_order_21 d_E_order_23 d_E_order_26 hout (Nat.le_of_ble_eq_true rfl) (Nat.le_of_ble_eq_true rfl) (Nat.le_of_ble_eq_true rfl) (Nat.le_of_ble_eq_true rfl) hlocks (⟨Or.inr ⟨rfl, ⟨i, hi, epi⟩, Or.inl c_7⟩, rfl⟩) (Nat.le_of_ble_eq_true rfl) (Nat.le_of_ble_eq_true rfl)
    · refine lv_iload_n hx hb d_E_order_10 rfl (lv_at hl 3 rfl) ?_
      refine lv_sipush (v := 10000) hx hb d_E_order_11 (by decide) ?_
      refine lv_icmp_le (tgt := 27) hx hb d_E_order_14 (by decide) (fun c_14 => ?_) (fun c_14 => ?_)
      · refine lv_aload_n hx hb d_E_order_27 rfl (lv_at hl 1 rfl) ?_
        refine m_get (v := .int (nI oc)) (C := R_E) (T := T_E) (N := 8) hx hb hT in_E hown hC.1 hm 0 rfl ((congrFun hG 0).trans gE_c0) rfl 7 (by decide) (hT _ k_94) (fun _ h9 => h9) rfl d_E_order_28 ?_
        refine lv_aload_n hx hb d_E_order_31 rfl (lv_at hl 1 rfl) ?_
        refine m_get (v := .ref (ad 4)) (C := R_E) (T := T_E) (N := 8) hx hb hT in_E hown hC.1 hm 0 rfl ((congrFun hG 0).trans gE_c0) rfl 4 (by decide) (hT _ k_91) (fun _ h9 => h9) rfl d_E_order_32 ?_
        refine m_alen (v := 16) hx hb hC.1 hm 4 rfl 5 ((congrFun hG 4).trans gE_c4) rfl rfl d_E_order_35 ?_
        refine lv_icmp_lt (tgt := 41) hx hb d_E_order_36 (by decide) (fun c_36 => ?_) (fun c_36 => ?_)
        · have ho16 : oc < 16 := (nI_ltI (b := 16) (by omega) (by decide)).mp c_36
          have hsi := hs i hi
          refine lv_aload_n hx hb d_E_order_41 rfl (lv_at hl 1 rfl) ?_
          refine m_get (v := .ref (ad 4)) (C := R_E) (T := T_E) (N := 8) hx hb hT in_E hown hC.1 hm 0 rfl ((congrFun hG 0).trans gE_c0) rfl 4 (by decide) (hT _ k_91) (fun _ h9 => h9) rfl d_E_order_42 ?_
          refine lv_aload_n hx hb d_E_order_45 rfl (lv_at hl 1 rfl) ?_
          refine m_get (v := .int (nI oc)) (C := R_E) (T := T_E) (N := 8) hx hb hT in_E hown hC.1 hm 0 rfl ((congrFun hG 0).trans gE_c0) rfl 7 (by decide) (hT _ k_94) (fun _ h9 => h9) rfl d_E_order_46 ?_
          refine m_new (ci := 0) (fs := [.int 0, .int 0, .int 0]) (C := R_Or) (T := T_Or) (N := 3) hx hb hT in_Or t_Or tok_Or hown (hT _ k_62) (hT _ k_534) (hT _ k_15) hC.1 hm hA (400 + oc) ((congrFun hG (400 + oc)).trans (gE_n4 ho16 ht)) rfl (fun j hj => by rcases (show j = 0 ∨ j = 1 ∨ j = 2 by omega) with rfl | rfl | rfl <;> rfl) (Nat.le_of_ble_eq_true rfl) (Nat.le_of_ble_eq_true rfl) d_E_order_49 (fun q_3 H hm => ?_)
          obtain ⟨G_4, eG_4⟩ : ∃ z : mG, z = va_up G (400 + oc) (some (.inr (0, [.int 0, .int 0, .int 0]))) := ⟨_, rfl⟩
          obtain ⟨ad_5, ead_5⟩ : ∃ z : Nat → Nat, z = va_up ad (400 + oc) q_3 := ⟨_, rfl⟩
          have hm : mS D mCl (mA ad G s.heap.size) s.heap ad_5 G_4 H locs := by rw [eG_4, ead_5]; exact hm
          have g_6 := (congrFun eG_4 0).trans ((va_up_ne _ _ (by omega)).trans ((congrFun hG 0).trans gE_c0))
          have g_7 := (congrFun eG_4 1).trans ((va_up_ne _ _ (by omega)).trans ((congrFun hG 1).trans gE_c1))
          have g_8 := (congrFun eG_4 2).trans ((va_up_ne _ _ (by omega)).trans ((congrFun hG 2).trans gE_c2))
          have g_9 := (congrFun eG_4 3).trans ((va_up_ne _ _ (by omega)).trans ((congrFun hG 3).trans gE_c3))
          have g_10 := (congrFun eG_4 4).trans ((va_up_ne _ _ (by omega)).trans ((congrFun hG 4).trans gE_c4))
          have g_11 := (congrFun eG_4 5).trans ((va_up_ne _ _ (by omega)).trans ((congrFun hG 5).trans gE_c5))
          have g_12 := (congrFun eG_4 (100 + i)).trans ((va_up_ne _ _ (by omega)).trans ((congrFun hG (100 + i)).trans (gE_to hi ht)))
          have g_13 := (congrFun eG_4 (10 + si i)).trans ((va_up_ne _ _ (by omega)).trans ((congrFun hG (10 + (si i))).trans (gE_so hsi)))
          have g_14 : G_4 (400 + oc) = some (.inr (0, [.int 0, .int 0, .int 0])) := by rw [eG_4, va_up_self]
          have z_15 : ad 0 = ad_5 0 := by rw [ead_5, va_up_ne _ _ (by omega)]
          have z_16 : ad 1 = ad_5 1 := by rw [ead_5, va_up_ne _ _ (by omega)]
          have z_17 : ad 2 = ad_5 2 := by rw [ead_5, va_up_ne _ _ (by omega)]
          have z_18 : ad 3 = ad_5 3 := by rw [ead_5, va_up_ne _ _ (by omega)]
          have z_19 : ad 4 = ad_5 4 := by rw [ead_5, va_up_ne _ _ (by omega)]
          have z_20 : ad 5 = ad_5 5 := by rw [ead_5, va_up_ne _ _ (by omega)]
          have z_21 : ad (100 + i) = ad_5 (100 + i) := by rw [ead_5, va_up_ne _ _ (by omega)]
          have z_22 : ad (10 + si i) = ad_5 (10 + si i) := by rw [ead_5, va_up_ne _ _ (by omega)]
          have z_23 : q_3 = ad_5 (400 + oc) := by rw [ead_5, va_up_self]
          refine lv_dup hx hb d_E_order_52 rfl ?_
          refine lv_aload_n hx hb d_E_order_53 rfl (lv_at hl 0 rfl) ?_
          refine m_get (v := .ref (ad (10 + si i))) (C := R_To) (T := T_To) (N := 9) hx hb hT in_To hown hC.1 hm (100 + i) z_21 g_12 rfl 0 (by decide) (hT _ k_257) (fun _ h9 => h9) rfl d_E_order_54 ?_
          refine m_get (v := .int (nI (si i))) (C := R_So) (T := T_So) (N := 6) hx hb hT in_So hown hC.1 hm (10 + si i) z_22 g_13 rfl 0 (by decide) (hT _ k_34) (fun _ h9 => h9) rfl d_E_order_57 ?_
          refine lv_iload_n hx hb d_E_order_60 rfl (lv_at hl 3 rfl) ?_
          refine m_callv (m_runI (As := [.int (nI (si i)), .int p1]) (rest := [.ref q_3, .int (nI oc), .ref (ad 4)]) ⟨hx, hb, hml, hown, hts⟩ (c_Or_init l D dA ad_5 G_4 H.size q_3 (400 + oc) (nI (si i)) p1 z_23 g_14) (cwI 2 hts (gI k_537) rfl rfl rfl (hT _ k_15) (hT _ k_535) (hT _ k_536) rfl (by decide +kernel) ⟨Nat.le_of_ble_eq_true rfl, Nat.le_of_ble_eq_true rfl⟩) hm hA hC rfl hl.1 rfl (Nat.le_of_ble_eq_true rfl) d_E_order_61 ⟨Nat.le_of_ble_eq_true rfl, Nat.le_of_ble_eq_true rfl⟩) hm hA (fun ad_27 G_26 H locs w_25 hm => ?_)
          obtain ⟨ea9, eG_26⟩ := Prod.mk.inj w_25
          rw [ea9] at hm
          have g_28 := (congrFun eG_26 0).trans ((va_up_ne _ _ (by omega)).trans g_6)
          have g_29 := (congrFun eG_26 1).trans ((va_up_ne _ _ (by omega)).trans g_7)
          have g_30 := (congrFun eG_26 2).trans ((va_up_ne _ _ (by omega)).trans g_8)
          have g_31 := (congrFun eG_26 3).trans ((va_up_ne _ _ (by omega)).trans g_9)
          have g_32 := (congrFun eG_26 4).trans ((va_up_ne _ _ (by omega)).trans g_10)
          have g_33 := (congrFun eG_26 5).trans ((va_up_ne _ _ (by omega)).trans g_11)
          have g_34 := (congrFun eG_26 (100 + i)).trans ((va_up_ne _ _ (by omega)).trans g_12)
          have g_35 := (congrFun eG_26 (10 + si i)).trans ((va_up_ne _ _ (by omega)).trans g_13)
          have g_36 : G_26 (400 + oc) = some (.inr (0, [.int (nI (si i)), .int p1, .int 0])) := by rw [eG_26, va_up_self]
          refine m_aast (r' := (R_Or, T_Or, 3)) hx hb hC.1 hm 4 z_19 5 (400 + oc) 0 z_23 g_32 rfl g_36 rfl (vp_in_nI (by omega) (by decide)) d_E_order_64 (fun H locs hm => ?_)
          rw [nI_clamp (show oc < 2 ^ 31 by omega)] at hm
          obtain ⟨G_37, eG_37⟩ : ∃ z : mG, z = va_up G_26 4 (some (.inl ((dA 5), 16, .inr (.inr (.inr (.inr (va_up (fun i => if i < oc then some (ad (400 + i)) else none) oc (some q_3)))))))) := ⟨_, rfl⟩
          have hm : mS D mCl (mA ad G s.heap.size) s.heap ad_5 G_37 H locs := by rw [eG_37]; exact hm
          have g_38 := (congrFun eG_37 0).trans ((va_up_ne _ _ (by omega)).trans g_28)
          have g_39 := (congrFun eG_37 1).trans ((va_up_ne _ _ (by omega)).trans g_29)
          have g_40 := (congrFun eG_37 2).trans ((va_up_ne _ _ (by omega)).trans g_30)
          have g_41 := (congrFun eG_37 3).trans ((va_up_ne _ _ (by omega)).trans g_31)
          have g_42 : G_37 4 = some (.inl ((dA 5), 16, .inr (.inr (.inr (.inr (va_up (fun i => if i < oc then some (ad (400 + i)) else none) oc (some q_3))))))) := by rw [eG_37, va_up_self]
          have g_43 := (congrFun eG_37 5).trans ((va_up_ne _ _ (by omega)).trans g_33)
          have g_44 := (congrFun eG_37 (100 + i)).trans ((va_up_ne _ _ (by omega)).trans g_34)
          have g_45 := (congrFun eG_37 (10 + si i)).trans ((va_up_ne _ _ (by omega)).trans g_35)
          have g_46 := (congrFun eG_37 (400 + oc)).trans ((va_up_ne _ _ (by omega)).trans g_36)
          refine lv_aload_n hx hb d_E_order_65 rfl (lv_at hl 1 rfl) ?_
          refine lv_dup hx hb d_E_order_66 rfl ?_
          refine m_get (v := .int (nI oc)) (C := R_E) (T := T_E) (N := 8) hx hb hT in_E hown hC.1 hm 0 z_15 g_38 rfl 7 (by decide) (hT _ k_94) (fun _ h9 => h9) rfl d_E_order_67 ?_
          refine lv_iconst (v := 1) hx hb d_E_order_70 (by decide) ?_
          refine lv_iadd hx hb d_E_order_71 ?_
          refine lv_topi (fun x_47 ex_47 => ?_)
          refine m_put (v := .int x_47) (ty := .int) (C := R_E) (T := T_E) (N := 8) hx hb hT in_E t_E tok_E nm_E hown hC.1 hm 0 z_15 g_38 rfl 7 (by decide) (hT _ k_94) (fun _ h9 => h9) rfl (by decide +kernel) rfl rfl (Nat.le_of_ble_eq_true rfl) d_E_order_72 (fun H locs hm => ?_)
          obtain ⟨G_48, eG_48⟩ : ∃ z : mG, z = va_up G_37 0 (some (.inr (5, [.int (I 0 0), .ref (ad 1), .ref (ad 2), .ref (ad 3), .ref (ad 4), .ref (ad 5), .int (nI tc), .int x_47]))) := ⟨_, rfl⟩
          have hm : mS D mCl (mA ad G s.heap.size) s.heap ad_5 G_48 H locs := by rw [eG_48]; exact hm
          have g_49 : G_48 0 = some (.inr (5, [.int (I 0 0), .ref (ad 1), .ref (ad 2), .ref (ad 3), .ref (ad 4), .ref (ad 5), .int (nI tc), .int x_47])) := by rw [eG_48, va_up_self]
          have g_50 := (congrFun eG_48 1).trans ((va_up_ne _ _ (by omega)).trans g_39)
          have g_51 := (congrFun eG_48 2).trans ((va_up_ne _ _ (by omega)).trans g_40)
          have g_52 := (congrFun eG_48 3).trans ((va_up_ne _ _ (by omega)).trans g_41)
          have g_53 := (congrFun eG_48 4).trans ((va_up_ne _ _ (by omega)).trans g_42)
          have g_54 := (congrFun eG_48 5).trans ((va_up_ne _ _ (by omega)).trans g_43)
          have g_55 := (congrFun eG_48 (100 + i)).trans ((va_up_ne _ _ (by omega)).trans g_44)
          have g_56 := (congrFun eG_48 (10 + si i)).trans ((va_up_ne _ _ (by omega)).trans g_45)
          have g_57 := (congrFun eG_48 (400 + oc)).trans ((va_up_ne _ _ (by omega)).trans g_46)
          refine lv_iconst (v := 1) hx hb d_E_order_75 (by decide) ?_
          refine W.widen (k := 2) (n := 12) (by omega) (by omega) ?_
          refine vx_ret ?_
          exact m_zret (v := 1) hx hb hr rfl hm (⟨i, hi, epi, fun h => h.elim c_7 (fun h => Int32.not_lt.mpr c_14 h), Or.inr ⟨ho16, rfl, q_3, by
            rw [eG_48, ex_47, eG_37, eG_26, ead_5, eG_4, bx_uu, hG, gE_ord ho16 ht hs]⟩⟩) d_E_order_76 hlocks
        · refine lv_iconst (v := 0) hx hb d_E_order_39 (by decide) ?_
          refine W.widen (k := 2) (n := 12) (by omega) (by omega) ?_
          refine vx_ret ?_
          exact m_zret (v := 0) hx hb hr rfl hm (⟨i, hi, epi, fun h => h.elim c_7 (fun h => Int32.not_lt.mpr c_14 h), Or.inl ⟨by
            have := (nI_leI (a := 16) (by decide) (by omega)).mp (Int32.not_lt.mp c_36)
            omega, rfl, by rw [hG]⟩⟩) d_E_order_40 hlocks
      · exact m_throwS (cls := "java/lang/IllegalArgumentException") (text := "day is not 0 .. 10000") (names := ["java/lang/RuntimeException", "java/lang/Exception"]) (tx := mTx) hx hb hlt hown (by decide +kernel) (by decide +kernel) (hT _ k_202) (hT _ k_9) (by decide +kernel) hC (at_IllegalArgumentException hT hC.2.2.2) (good_IllegalArgumentException) hm (hl.1.trans hml.symm) d_E_order_17 d_E_order_20 d_E_order_21 d_E_order_23 d_E_order_26 hout (Nat.le_of_ble_eq_true rfl) (Nat.le_of_ble_eq_true rfl) (Nat.le_of_ble_eq_true rfl) (Nat.le_of_ble_eq_true rfl) hlocks (⟨Or.inr ⟨rfl, ⟨i, hi, epi⟩, Or.inr (Int32.not_le.mp c_14)⟩, rfl⟩) (Nat.le_of_ble_eq_true rfl) (Nat.le_of_ble_eq_true rfl)

set_option maxHeartbeats 4000000 in
set_option maxRecDepth 100000 in
theorem c_E_tool (l : Launch) (hlt : l.stackTraces = false) (D : va_G) (dA : Nat → ClassId) (ad : Nat → Nat) (G : mG) (sz : Nat) (I : Nat → Nat → Int32) (J : Nat → Nat → Int64) (F : Nat → Nat → Nat → Int32) (si : Nat → Nat) (tc oc : Nat) (G0 : mG) (hG : G = gE dA ad I J F si tc oc G0) (ht : tc ≤ 12) (ho : oc ≤ 16) (hs : ∀ i, i < tc → si i < 4) (p0 p1 p2 : Int32) : vx_Met l y_E_tool (.code y_E_tool b_E_tool 6 (some .int) :: mBig) ({ frames := 7, cells := 4, slots := 42, locals := 104 }) (mPc [.ref (ad 0), .int p0, .int p1, .int p2] D mCl (mTys dA) mTx ad G sz) (mQi (fun (rv : Int32) (u : mU) => (∃ i, i < 4 ∧ p0 = nI i ∧ ¬ (1000000 < p1 ∨ p2 < 0 ∨ p1 < p2) ∧ tc < 12 ∧ rv = nI tc ∧ ∃ q0 q1 q2 : Nat, u = ((va_up (va_up (va_up ad (100 + tc) q0) (200 + tc) q1) (300 + tc) q2), gE dA (va_up (va_up (va_up ad (100 + tc) q0) (200 + tc) q1) (300 + tc) q2) (up2 (up2 (up2 (up2 (up2 (up2 I 5 tc p1) 6 tc p2) 7 tc 0) 8 tc 0) 9 tc 0) 10 tc (-1)) (up2 (up2 (up2 J 1 tc 0) 2 tc 0) 3 tc 0) (up2 F 1 tc (fun _ => 0)) (va_up si tc i) (tc + 1) oc G0))) D mCl ad G sz) (mXC (fun (E : String) (u : mU) => ((E = "java/lang/IndexOutOfBoundsException" ∧ ¬ ∃ i, i < 4 ∧ p0 = nI i) ∨ (E = "java/lang/IllegalArgumentException" ∧ (∃ i, i < 4 ∧ p0 = nI i) ∧ (1000000 < p1 ∨ p2 < 0 ∨ p1 < p2)) ∨ (E = "java/lang/IllegalStateException" ∧ (∃ i, i < 4 ∧ p0 = nI i) ∧ ¬ (1000000 < p1 ∨ p2 < 0 ∨ p1 < p2) ∧ tc = 12)) ∧ u = (ad, G)) D mCl ad G sz) 4 42 (mA ad G sz) := by
  refine vx_ofW (cc := b_E_tool) (maxL := 6) (ret := (some .int)) (by decide) rfl ?_
  intro p e s m args below meth c s₁ B hml hout hv
  obtain ⟨rfl, hsz, hw0, hC⟩ := hv
  have hx := B.exec
  have hb := B.bytes
  have hr := B.returns
  have hts := atoms_spec (ws := .code y_E_tool b_E_tool 6 (some .int) :: mBig) B.pre
  have hT : ∀ w ∈ mBig, w.before _ s = true := fun w h => hts w (List.mem_cons_of_mem _ h)
  have hown : s.vm.findClass "EdgeWear" = some m.cls := findClass_of_methodNamed B.named
  have hlocks := B.notSynchronized
  subst hsz
  have hm := mS.start hw0
  have hA : ∀ q : Nat, s.heap.size ≤ q → mA ad G s.heap.size q := fun q h => Or.inr h
  have hl := lv_entry ([.ref (ad 0), .int p0, .int p1, .int p2]) (n := 6) (Nat.le_of_ble_eq_true rfl)
  rw [lg_entry_eq]
  generalize (lg_sl ([.ref (ad 0), .int p0, .int p1, .int p2]) ++ List.replicate (6 - (lg_sl ([.ref (ad 0), .int p0, .int p1, .int p2])).length) Slot.unset).toArray = ls at hl ⊢
  have hl : lv_has ls 6 [(0, .ref (ad 0)), (1, .int p0), (2, .int p1), (3, .int p2)] := hl
  refine lv_aload_n hx hb d_E_tool_0 rfl (lv_at hl 0 rfl) ?_
  refine lv_iload_n hx hb d_E_tool_1 rfl (lv_at hl 1 rfl) ?_
  refine x_roq (x_runV (As := [.int p0]) (rest := []) ⟨hx, hb, hml, hown, hts⟩ (c_E_sortAt l hlt D dA ad G s.heap.size I J F si tc oc G0 hG ht p0) (cwV 1 hts (gV k_132 k_129 k_131 ks_0 k_1) rfl rfl rfl (by decide +kernel) ⟨Nat.le_of_ble_eq_true rfl, Nat.le_of_ble_eq_true rfl⟩) hm hA hC 0 rfl ((congrFun hG 0).trans gE_c0) rfl rfl rfl hl.1 rfl (Nat.le_of_ble_eq_true rfl) d_E_tool_2 ⟨Nat.le_of_ble_eq_true rfl, Nat.le_of_ble_eq_true rfl⟩) hm hA (fun E ce q9 H locs w_2 hm h7 h8 h9 => ?_) (fun r_1 H locs w_2 hm => ?_)
  · exact m_out hout hlocks hm h7 h8 h9 (by
      obtain ⟨rfl, hq⟩ := w_2
      exact ⟨Or.inl ⟨rfl, hq⟩, rfl⟩) (by decide) (by decide)
  · obtain ⟨i, hi, epi, er⟩ := w_2
    subst er
    rw [show va_rf (some (ad (10 + i))) = .ref (ad (10 + i)) from rfl]
    refine lv_astore (lv' := [(4, .ref (ad (10 + i))), (0, .ref (ad 0)), (1, .int p0), (2, .int p1), (3, .int p2)]) hx hb d_E_tool_5 hl (by decide) rfl (fun ls hl => ?_)
    refine lv_iload_n hx hb d_E_tool_7 rfl (lv_at hl 3 rfl) ?_
    refine lv_ldc (v := 1000000) hx hb hown (hT _ k_201) d_E_tool_8 ?_
    refine lv_icmp_gt (tgt := 22) hx hb d_E_tool_10 (by decide) (fun c_10 => ?_) (fun c_10 => ?_)
    · exact m_throwS (cls := "java/lang/IllegalArgumentException") (text := "length is above 1000000, or least is not 0 .. length") (names := ["java/lang/RuntimeException", "java/lang/Exception"]) (tx := mTx) hx hb hlt hown (by decide +kernel) (by decide +kernel) (hT _ k_202) (hT _ k_9) (by decide +kernel) hC (at_IllegalArgumentException hT hC.2.2.2) (good_IllegalArgumentException) hm (hl.1.trans hml.symm) d_E_tool_22 d_E_tool_25 d_E_tool_26 d_E_tool_28 d_E_tool_31 hout (Nat.le_of_ble_eq_true rfl) (Nat.le_of_ble_eq_true rfl) (Nat.le_of_ble_eq_true rfl) (Nat.le_of_ble_eq_true rfl) hlocks (⟨Or.inr (Or.inl ⟨rfl, ⟨i, hi, epi⟩, Or.inl c_10⟩), rfl⟩) (Nat.le_of_ble_eq_true rfl) (Nat.le_of_ble_eq_true rfl)
    · refine lv_iload_n hx hb d_E_tool_13 rfl (lv_at hl 4 rfl) ?_
      refine lv_if_lt (tgt := 22) hx hb d_E_tool_14 (by decide) (fun c_14 => ?_) (fun c_14 => ?_)
      · exact m_throwS (cls := "java/lang/IllegalArgumentException") (text := "length is above 1000000, or least is not 0 .. length") (names := ["java/lang/RuntimeException", "java/lang/Exception"]) (tx := mTx) hx hb hlt hown (by decide +kernel) (by decide +kernel) (hT _ k_202) (hT _ k_9) (by decide +kernel) hC (at_IllegalArgumentException hT hC.2.2.2) (good_IllegalArgumentException) hm (hl.1.trans hml.symm) d_E_tool_22 d_E_tool_25 d_E_tool_26 d_E_tool_28 d_E_tool_31 hout (Nat.le_of_ble_eq_true rfl) (Nat.le_of_ble_eq_true rfl) (Nat.le_of_ble_eq_true rfl) (Nat.le_of_ble_eq_true rfl) hlocks (⟨Or.inr (Or.inl ⟨rfl, ⟨i, hi, epi⟩, Or.inr (Or.inl c_14)⟩), rfl⟩) (Nat.le_of_ble_eq_true rfl) (Nat.le_of_ble_eq_true rfl)
      · refine lv_iload_n hx hb d_E_tool_17 rfl (lv_at hl 4 rfl) ?_
        refine lv_iload_n hx hb d_E_tool_18 rfl (lv_at hl 3 rfl) ?_
        refine lv_icmp_le (tgt := 32) hx hb d_E_tool_19 (by decide) (fun c_19 => ?_) (fun c_19 => ?_)
        · refine lv_aload_n hx hb d_E_tool_32 rfl (lv_at hl 1 rfl) ?_
          refine m_get (v := .int (nI tc)) (C := R_E) (T := T_E) (N := 8) hx hb hT in_E hown hC.1 hm 0 rfl ((congrFun hG 0).trans gE_c0) rfl 6 (by decide) (hT _ k_93) (fun _ h9 => h9) rfl d_E_tool_33 ?_
          refine lv_aload_n hx hb d_E_tool_36 rfl (lv_at hl 1 rfl) ?_
          refine m_get (v := .ref (ad 3)) (C := R_E) (T := T_E) (N := 8) hx hb hT in_E hown hC.1 hm 0 rfl ((congrFun hG 0).trans gE_c0) rfl 3 (by decide) (hT _ k_90) (fun _ h9 => h9) rfl d_E_tool_37 ?_
          refine m_alen (v := 12) hx hb hC.1 hm 3 rfl 4 ((congrFun hG 3).trans gE_c3) rfl rfl d_E_tool_40 ?_
          refine lv_icmp_lt (tgt := 54) hx hb d_E_tool_41 (by decide) (fun c_41 => ?_) (fun c_41 => ?_)
          · have ht12 : tc < 12 := (nI_ltI (b := 12) (by omega) (by decide)).mp c_41
            refine lv_aload_n hx hb d_E_tool_54 rfl (lv_at hl 1 rfl) ?_
            refine m_get (v := .int (nI tc)) (C := R_E) (T := T_E) (N := 8) hx hb hT in_E hown hC.1 hm 0 rfl ((congrFun hG 0).trans gE_c0) rfl 6 (by decide) (hT _ k_93) (fun _ h9 => h9) rfl d_E_tool_55 ?_
            refine lv_istore (lv' := [(5, .int (nI tc)), (4, .ref (ad (10 + i))), (0, .ref (ad 0)), (1, .int p0), (2, .int p1), (3, .int p2)]) hx hb d_E_tool_58 hl (by decide) rfl (fun ls hl => ?_)
            refine lv_aload_n hx hb d_E_tool_60 rfl (lv_at hl 2 rfl) ?_
            refine m_get (v := .ref (ad 3)) (C := R_E) (T := T_E) (N := 8) hx hb hT in_E hown hC.1 hm 0 rfl ((congrFun hG 0).trans gE_c0) rfl 3 (by decide) (hT _ k_90) (fun _ h9 => h9) rfl d_E_tool_61 ?_
            refine lv_iload hx hb d_E_tool_64 (lv_at hl 0 rfl) ?_
            refine m_new (ci := 4) (fs := [.null, .int 0, .null, .int 0, .long 0, .long 0, .long 0, .int 0, .int 0]) (C := R_To) (T := T_To) (N := 9) hx hb hT in_To t_To tok_To hown (hT _ k_60) (hT _ k_234) (hT _ k_11) hC.1 hm hA (100 + tc) ((congrFun hG (100 + tc)).trans (gE_n1 ht12)) rfl (fun j hj => by rcases (show j = 0 ∨ j = 1 ∨ j = 2 ∨ j = 3 ∨ j = 4 ∨ j = 5 ∨ j = 6 ∨ j = 7 ∨ j = 8 by omega) with rfl | rfl | rfl | rfl | rfl | rfl | rfl | rfl | rfl <;> rfl) (Nat.le_of_ble_eq_true rfl) (Nat.le_of_ble_eq_true rfl) d_E_tool_66 (fun q_3 H hm => ?_)
            obtain ⟨G_4, eG_4⟩ : ∃ z : mG, z = va_up G (100 + tc) (some (.inr (4, [.null, .int 0, .null, .int 0, .long 0, .long 0, .long 0, .int 0, .int 0]))) := ⟨_, rfl⟩
            obtain ⟨ad_5, ead_5⟩ : ∃ z : Nat → Nat, z = va_up ad (100 + tc) q_3 := ⟨_, rfl⟩
            have hm : mS D mCl (mA ad G s.heap.size) s.heap ad_5 G_4 H locs := by rw [eG_4, ead_5]; exact hm
            have g_6 := (congrFun eG_4 0).trans ((va_up_ne _ _ (by omega)).trans ((congrFun hG 0).trans gE_c0))
            have g_7 := (congrFun eG_4 1).trans ((va_up_ne _ _ (by omega)).trans ((congrFun hG 1).trans gE_c1))
            have g_8 := (congrFun eG_4 2).trans ((va_up_ne _ _ (by omega)).trans ((congrFun hG 2).trans gE_c2))
            have g_9 := (congrFun eG_4 3).trans ((va_up_ne _ _ (by omega)).trans ((congrFun hG 3).trans gE_c3))
            have g_10 := (congrFun eG_4 4).trans ((va_up_ne _ _ (by omega)).trans ((congrFun hG 4).trans gE_c4))
            have g_11 := (congrFun eG_4 5).trans ((va_up_ne _ _ (by omega)).trans ((congrFun hG 5).trans gE_c5))
            have g_12 := (congrFun eG_4 (10 + i)).trans ((va_up_ne _ _ (by omega)).trans ((congrFun hG (10 + i)).trans (gE_so hi)))
            have g_13 : G_4 (100 + tc) = some (.inr (4, [.null, .int 0, .null, .int 0, .long 0, .long 0, .long 0, .int 0, .int 0])) := by rw [eG_4, va_up_self]
            have z_14 : ad 0 = ad_5 0 := by rw [ead_5, va_up_ne _ _ (by omega)]
            have z_15 : ad 1 = ad_5 1 := by rw [ead_5, va_up_ne _ _ (by omega)]
            have z_16 : ad 2 = ad_5 2 := by rw [ead_5, va_up_ne _ _ (by omega)]
            have z_17 : ad 3 = ad_5 3 := by rw [ead_5, va_up_ne _ _ (by omega)]
            have z_18 : ad 4 = ad_5 4 := by rw [ead_5, va_up_ne _ _ (by omega)]
            have z_19 : ad 5 = ad_5 5 := by rw [ead_5, va_up_ne _ _ (by omega)]
            have z_20 : ad (10 + i) = ad_5 (10 + i) := by rw [ead_5, va_up_ne _ _ (by omega)]
            have z_21 : q_3 = ad_5 (100 + tc) := by rw [ead_5, va_up_self]
            refine lv_dup hx hb d_E_tool_69 rfl ?_
            refine lv_aload hx hb d_E_tool_70 (lv_at hl 1 rfl) ?_
            refine lv_iload_n hx hb d_E_tool_72 rfl (lv_at hl 4 rfl) ?_
            refine lv_iload_n hx hb d_E_tool_73 rfl (lv_at hl 5 rfl) ?_
            refine m_callv (m_runI (As := [.ref (ad (10 + i)), .int p1, .int p2]) (rest := [.ref q_3, .int (nI tc), .ref (ad 3)]) ⟨hx, hb, hml, hown, hts⟩ (c_To_init l D dA ad_5 G_4 H.size q_3 (100 + tc) (200 + tc) (300 + tc) (ad (10 + i)) p1 p2 (by omega) (by omega) (by omega) (by rw [eG_4, va_up_ne _ _ (by omega)]; exact (congrFun hG (200 + tc)).trans (gE_n2 ht12)) (by rw [eG_4, va_up_ne _ _ (by omega)]; exact (congrFun hG (300 + tc)).trans (gE_n3 ht12)) z_21 g_13) (cwI 3 hts (gI k_237) rfl rfl rfl (hT _ k_11) (hT _ k_235) (hT _ k_236) rfl (by decide +kernel) ⟨Nat.le_of_ble_eq_true rfl, Nat.le_of_ble_eq_true rfl⟩) hm hA hC rfl hl.1 rfl (Nat.le_of_ble_eq_true rfl) d_E_tool_74 ⟨Nat.le_of_ble_eq_true rfl, Nat.le_of_ble_eq_true rfl⟩) hm hA (fun ad_25 G_24 H locs w_23 hm => ?_)
            obtain ⟨q_26, q_27, u_28⟩ := w_23
            obtain ⟨ead_25, eG_24⟩ := Prod.mk.inj u_28
            have g_29 := (congrFun eG_24 0).trans ((va_up_ne _ _ (by omega)).trans ((va_up_ne _ _ (by omega)).trans ((va_up_ne _ _ (by omega)).trans g_6)))
            have g_30 := (congrFun eG_24 1).trans ((va_up_ne _ _ (by omega)).trans ((va_up_ne _ _ (by omega)).trans ((va_up_ne _ _ (by omega)).trans g_7)))
            have g_31 := (congrFun eG_24 2).trans ((va_up_ne _ _ (by omega)).trans ((va_up_ne _ _ (by omega)).trans ((va_up_ne _ _ (by omega)).trans g_8)))
            have g_32 := (congrFun eG_24 3).trans ((va_up_ne _ _ (by omega)).trans ((va_up_ne _ _ (by omega)).trans ((va_up_ne _ _ (by omega)).trans g_9)))
            have g_33 := (congrFun eG_24 4).trans ((va_up_ne _ _ (by omega)).trans ((va_up_ne _ _ (by omega)).trans ((va_up_ne _ _ (by omega)).trans g_10)))
            have g_34 := (congrFun eG_24 5).trans ((va_up_ne _ _ (by omega)).trans ((va_up_ne _ _ (by omega)).trans ((va_up_ne _ _ (by omega)).trans g_11)))
            have g_35 := (congrFun eG_24 (10 + i)).trans ((va_up_ne _ _ (by omega)).trans ((va_up_ne _ _ (by omega)).trans ((va_up_ne _ _ (by omega)).trans g_12)))
            have g_36 : G_24 (100 + tc) = some (.inr (4, [.ref (ad (10 + i)), .int p2, .ref q_26, .int p1, .long 0, .long 0, .long 0, .int 0, .int 0])) := by rw [eG_24, va_up_self]
            have g_37 : G_24 (200 + tc) = some (.inr (1, [.ref q_27, .int 0, .int (-1)])) := by rw [eG_24, va_up_ne _ _ (by omega), va_up_ne _ _ (by omega), va_up_self]
            have g_38 : G_24 (300 + tc) = some (.inl (dA 0, 24, .inl (fun _ => 0))) := by rw [eG_24, va_up_ne _ _ (by omega), va_up_self]
            have z_39 : ad 0 = ad_25 0 := by rw [ead_25, va_up_ne _ _ (by omega), va_up_ne _ _ (by omega)]; exact z_14
            have z_40 : ad 1 = ad_25 1 := by rw [ead_25, va_up_ne _ _ (by omega), va_up_ne _ _ (by omega)]; exact z_15
            have z_41 : ad 2 = ad_25 2 := by rw [ead_25, va_up_ne _ _ (by omega), va_up_ne _ _ (by omega)]; exact z_16
            have z_42 : ad 3 = ad_25 3 := by rw [ead_25, va_up_ne _ _ (by omega), va_up_ne _ _ (by omega)]; exact z_17
            have z_43 : ad 4 = ad_25 4 := by rw [ead_25, va_up_ne _ _ (by omega), va_up_ne _ _ (by omega)]; exact z_18
            have z_44 : ad 5 = ad_25 5 := by rw [ead_25, va_up_ne _ _ (by omega), va_up_ne _ _ (by omega)]; exact z_19
            have z_45 : ad (10 + i) = ad_25 (10 + i) := by rw [ead_25, va_up_ne _ _ (by omega), va_up_ne _ _ (by omega)]; exact z_20
            have z_46 : q_3 = ad_25 (100 + tc) := by rw [ead_25, va_up_ne _ _ (by omega), va_up_ne _ _ (by omega)]; exact z_21
            have z_47 : q_26 = ad_25 (200 + tc) := by rw [ead_25, va_up_ne _ _ (by omega), va_up_self]
            have z_48 : q_27 = ad_25 (300 + tc) := by rw [ead_25, va_up_self]
            refine m_aast (r' := (R_To, T_To, 9)) hx hb hC.1 hm 3 z_42 4 (100 + tc) 4 z_46 g_32 rfl g_36 rfl (vp_in_nI (by omega) (by decide)) d_E_tool_77 (fun H locs hm => ?_)
            rw [nI_clamp (show tc < 2 ^ 31 by omega)] at hm
            obtain ⟨G_49, eG_49⟩ : ∃ z : mG, z = va_up G_24 3 (some (.inl ((dA 4), 12, .inr (.inr (.inr (.inr (va_up (fun i => if i < tc then some (ad (100 + i)) else none) tc (some q_3)))))))) := ⟨_, rfl⟩
            have hm : mS D mCl (mA ad G s.heap.size) s.heap ad_25 G_49 H locs := by rw [eG_49]; exact hm
            have g_50 := (congrFun eG_49 0).trans ((va_up_ne _ _ (by omega)).trans g_29)
            have g_51 := (congrFun eG_49 1).trans ((va_up_ne _ _ (by omega)).trans g_30)
            have g_52 := (congrFun eG_49 2).trans ((va_up_ne _ _ (by omega)).trans g_31)
            have g_53 : G_49 3 = some (.inl ((dA 4), 12, .inr (.inr (.inr (.inr (va_up (fun i => if i < tc then some (ad (100 + i)) else none) tc (some q_3))))))) := by rw [eG_49, va_up_self]
            have g_54 := (congrFun eG_49 4).trans ((va_up_ne _ _ (by omega)).trans g_33)
            have g_55 := (congrFun eG_49 5).trans ((va_up_ne _ _ (by omega)).trans g_34)
            have g_56 := (congrFun eG_49 (10 + i)).trans ((va_up_ne _ _ (by omega)).trans g_35)
            have g_57 := (congrFun eG_49 (100 + tc)).trans ((va_up_ne _ _ (by omega)).trans g_36)
            have g_58 := (congrFun eG_49 (200 + tc)).trans ((va_up_ne _ _ (by omega)).trans g_37)
            have g_59 := (congrFun eG_49 (300 + tc)).trans ((va_up_ne _ _ (by omega)).trans g_38)
            refine lv_aload_n hx hb d_E_tool_78 rfl (lv_at hl 2 rfl) ?_
            refine lv_iload hx hb d_E_tool_79 (lv_at hl 0 rfl) ?_
            refine lv_iconst (v := 1) hx hb d_E_tool_81 (by decide) ?_
            refine lv_iadd hx hb d_E_tool_82 ?_
            refine lv_topi (fun x_60 ex_60 => ?_)
            refine m_put (v := .int x_60) (ty := .int) (C := R_E) (T := T_E) (N := 8) hx hb hT in_E t_E tok_E nm_E hown hC.1 hm 0 z_39 g_50 rfl 6 (by decide) (hT _ k_93) (fun _ h9 => h9) rfl (by decide +kernel) rfl rfl (Nat.le_of_ble_eq_true rfl) d_E_tool_83 (fun H locs hm => ?_)
            obtain ⟨G_61, eG_61⟩ : ∃ z : mG, z = va_up G_49 0 (some (.inr (5, [.int (I 0 0), .ref (ad 1), .ref (ad 2), .ref (ad 3), .ref (ad 4), .ref (ad 5), .int x_60, .int (nI oc)]))) := ⟨_, rfl⟩
            have hm : mS D mCl (mA ad G s.heap.size) s.heap ad_25 G_61 H locs := by rw [eG_61]; exact hm
            have g_62 : G_61 0 = some (.inr (5, [.int (I 0 0), .ref (ad 1), .ref (ad 2), .ref (ad 3), .ref (ad 4), .ref (ad 5), .int x_60, .int (nI oc)])) := by rw [eG_61, va_up_self]
            have g_63 := (congrFun eG_61 1).trans ((va_up_ne _ _ (by omega)).trans g_51)
            have g_64 := (congrFun eG_61 2).trans ((va_up_ne _ _ (by omega)).trans g_52)
            have g_65 := (congrFun eG_61 3).trans ((va_up_ne _ _ (by omega)).trans g_53)
            have g_66 := (congrFun eG_61 4).trans ((va_up_ne _ _ (by omega)).trans g_54)
            have g_67 := (congrFun eG_61 5).trans ((va_up_ne _ _ (by omega)).trans g_55)
            have g_68 := (congrFun eG_61 (10 + i)).trans ((va_up_ne _ _ (by omega)).trans g_56)
            have g_69 := (congrFun eG_61 (100 + tc)).trans ((va_up_ne _ _ (by omega)).trans g_57)
            have g_70 := (congrFun eG_61 (200 + tc)).trans ((va_up_ne _ _ (by omega)).trans g_58)
            have g_71 := (congrFun eG_61 (300 + tc)).trans ((va_up_ne _ _ (by omega)).trans g_59)
            refine lv_iload hx hb d_E_tool_86 (lv_at hl 0 rfl) ?_
            refine vx_ret ?_
            exact m_iret (v := nI tc) hx hb hr hm (⟨i, hi, epi, fun h => h.elim c_10 (fun h => h.elim c_14 (fun h => Int32.not_lt.mpr c_19 h)), ht12, rfl, q_3, q_26, q_27, by
              rw [eG_61, ex_60, eG_49, ead_25, eG_24, ead_5, eG_4]
              refine Prod.ext rfl ?_
              rw [← gE_tl ht12 ho hs q_3 q_26 q_27 p1 p2 i hi, ← hG]
              simp only [bx_uu]
              funext x
              by_cases k0 : x = 0
              · simp [va_up, k0]
              · by_cases k3 : x = 3
                · simp [va_up, k3]
                · by_cases k1 : x = 100 + tc
                  · simp [va_up, k1]
                  · simp [va_up, k0, k3, k1]⟩) d_E_tool_88 hlocks
          · exact m_throwS (cls := "java/lang/IllegalStateException") (text := "there are 12 tools") (names := ["java/lang/RuntimeException", "java/lang/Exception"]) (tx := mTx) hx hb hlt hown (by decide +kernel) (by decide +kernel) (hT _ k_218) (hT _ k_10) (by decide +kernel) hC (at_IllegalStateException hT hC.2.2.2) (good_IllegalStateException) hm (hl.1.trans hml.symm) d_E_tool_44 d_E_tool_47 d_E_tool_48 d_E_tool_50 d_E_tool_53 hout (Nat.le_of_ble_eq_true rfl) (Nat.le_of_ble_eq_true rfl) (Nat.le_of_ble_eq_true rfl) (Nat.le_of_ble_eq_true rfl) hlocks (⟨Or.inr (Or.inr ⟨rfl, ⟨i, hi, epi⟩, fun h => h.elim c_10 (fun h => h.elim c_14 (fun h => Int32.not_lt.mpr c_19 h)), by
              have := (nI_leI (a := 12) (by decide) (by omega)).mp (Int32.not_lt.mp c_41)
              omega⟩), rfl⟩) (Nat.le_of_ble_eq_true rfl) (Nat.le_of_ble_eq_true rfl)
        · exact m_throwS (cls := "java/lang/IllegalArgumentException") (text := "length is above 1000000, or least is not 0 .. length") (names := ["java/lang/RuntimeException", "java/lang/Exception"]) (tx := mTx) hx hb hlt hown (by decide +kernel) (by decide +kernel) (hT _ k_202) (hT _ k_9) (by decide +kernel) hC (at_IllegalArgumentException hT hC.2.2.2) (good_IllegalArgumentException) hm (hl.1.trans hml.symm) d_E_tool_22 d_E_tool_25 d_E_tool_26 d_E_tool_28 d_E_tool_31 hout (Nat.le_of_ble_eq_true rfl) (Nat.le_of_ble_eq_true rfl) (Nat.le_of_ble_eq_true rfl) (Nat.le_of_ble_eq_true rfl) hlocks (⟨Or.inr (Or.inl ⟨rfl, ⟨i, hi, epi⟩, Or.inr (Or.inr (Int32.not_le.mp c_19))⟩), rfl⟩) (Nat.le_of_ble_eq_true rfl) (Nat.le_of_ble_eq_true rfl)
