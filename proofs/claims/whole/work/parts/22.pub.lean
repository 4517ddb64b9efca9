set_option maxHeartbeats 4000000 in
set_option maxRecDepth 100000 in
theorem c_E_rate (l : Launch) (hlt : l.stackTraces = false) (D : va_G) (dA : Nat → ClassId) (ad : Nat → Nat) (G : mG) (sz : Nat) (I : Nat → Nat → Int32) (J : Nat → Nat → Int64) (F : Nat → Nat → Nat → Int32) (si : Nat → Nat) (tc oc : Nat) (G0 : mG) (hG : G = gE dA ad I J F si tc oc G0) (ht : tc ≤ 12) (p0 p1 p2 : Int32) : vx_Met l y_E_rate (.code y_E_rate b_E_rate 5 none :: mBig) ({ frames := 7, cells := 2, slots := 12, locals := 103 }) (mPc [.ref (ad 0), .int p0, .int p1, .int p2] D mCl (mTys dA) mTx ad G sz) (mQv (fun (u : mU) => (∃ a b, a < 4 ∧ b < 4 ∧ p0 = nI a ∧ p1 = nI b ∧ ¬ (p2 < 0 ∨ 1000000 < p2) ∧ u = (ad, gE dA ad (up2 I 1 (4 * a + b) p2) J F si tc oc G0))) D mCl ad G sz) (mXC (fun (E : String) (u : mU) => ((E = "java/lang/IndexOutOfBoundsException" ∧ ¬ ((∃ a, a < 4 ∧ p0 = nI a) ∧ ∃ b, b < 4 ∧ p1 = nI b)) ∨ (E = "java/lang/IllegalArgumentException" ∧ ((∃ a, a < 4 ∧ p0 = nI a) ∧ ∃ b, b < 4 ∧ p1 = nI b) ∧ (p2 < 0 ∨ 1000000 < p2))) ∧ u = (ad, G)) D mCl ad G sz) 2 12 (mA ad G sz) := by
  refine vx_ofW (cc := b_E_rate) (maxL := 5) (ret := none) (by decide) rfl ?_
  intro p e s m args below meth c s₁ B hml hout hv
  obtain ⟨rfl, hsz, hw0, hC⟩ := hv
  have hx := B.exec
  have hb := B.bytes
  have hr := B.returns
  have hts := atoms_spec (ws := .code y_E_rate b_E_rate 5 none :: mBig) B.pre
  have hT : ∀ w ∈ mBig, w.before _ s = true := fun w h => hts w (List.mem_cons_of_mem _ h)
  have hown : s.vm.findClass "EdgeWear" = some m.cls := findClass_of_methodNamed B.named
  have hlocks := B.notSynchronized
  subst hsz
  have hm := mS.start hw0
  have hA : ∀ q : Nat, s.heap.size ≤ q → mA ad G s.heap.size q := fun q h => Or.inr h
  have hl := lv_entry ([.ref (ad 0), .int p0, .int p1, .int p2]) (n := 5) (Nat.le_of_ble_eq_true rfl)
  rw [lg_entry_eq]
  generalize (lg_sl ([.ref (ad 0), .int p0, .int p1, .int p2]) ++ List.replicate (5 - (lg_sl ([.ref (ad 0), .int p0, .int p1, .int p2])).length) Slot.unset).toArray = ls at hl ⊢
  have hl : lv_has ls 5 [(0, .ref (ad 0)), (1, .int p0), (2, .int p1), (3, .int p2)] := hl
  refine lv_iload_n hx hb d_E_rate_0 rfl (lv_at hl 1 rfl) ?_
  refine lv_iload_n hx hb d_E_rate_1 rfl (lv_at hl 2 rfl) ?_
  refine x_roi (x_runS (As := [.int p0, .int p1]) (rest := []) ⟨hx, hb, hml, hown, hts⟩ (c_E_rateIndex l hlt D dA ad G s.heap.size I J F si tc oc G0 hG ht p0 p1) (va_cwS 2 hts (gS k_301 k_299 k_300 k_1) rfl rfl rfl (by decide +kernel) ⟨Nat.le_of_ble_eq_true rfl, Nat.le_of_ble_eq_true rfl⟩) hm hA hC rfl hl.1 rfl (Nat.le_of_ble_eq_true rfl) d_E_rate_2 ⟨Nat.le_of_ble_eq_true rfl, Nat.le_of_ble_eq_true rfl⟩) hm hA (fun E ce q9 H locs w_2 hm h7 h8 h9 => ?_) (fun r_1 H locs w_2 hm => ?_)
  · exact m_out hout hlocks hm h7 h8 h9 (by
      obtain ⟨rfl, hq⟩ := w_2
      exact ⟨Or.inl ⟨rfl, hq⟩, rfl⟩) (by decide) (by decide)
  · obtain ⟨a, b, ha4, hb4, ea, eb, er⟩ := w_2
    subst er
    refine lv_istore (lv' := [(4, .int (nI (4 * a + b))), (0, .ref (ad 0)), (1, .int p0), (2, .int p1), (3, .int p2)]) hx hb d_E_rate_5 hl (by decide) rfl (fun ls hl => ?_)
    refine lv_iload_n hx hb d_E_rate_7 rfl (lv_at hl 4 rfl) ?_
    refine lv_if_lt (tgt := 17) hx hb d_E_rate_8 (by decide) (fun c_8 => ?_) (fun c_8 => ?_)
    · exact m_throwS (cls := "java/lang/IllegalArgumentException") (text := "rate is not 0 .. 1000000") (names := ["java/lang/RuntimeException", "java/lang/Exception"]) (tx := mTx) hx hb hlt hown (by decide +kernel) (by decide +kernel) (hT _ k_202) (hT _ k_9) (by decide +kernel) hC (at_IllegalArgumentException hT hC.2.2.2) (good_IllegalArgumentException) hm (hl.1.trans hml.symm) d_E_rate_17 d_E_rate_20 d_E_rate_21 d_E_rate_23 d_E_rate_26 hout (Nat.le_of_ble_eq_true rfl) (Nat.le_of_ble_eq_true rfl) (Nat.le_of_ble_eq_true rfl) (Nat.le_of_ble_eq_true rfl) hlocks (⟨Or.inr ⟨rfl, ⟨⟨a, ha4, ea⟩, ⟨b, hb4, eb⟩⟩, Or.inl c_8⟩, rfl⟩) (Nat.le_of_ble_eq_true rfl) (Nat.le_of_ble_eq_true rfl)
    · refine lv_iload_n hx hb d_E_rate_11 rfl (lv_at hl 4 rfl) ?_
      refine lv_ldc (v := 1000000) hx hb hown (hT _ k_201) d_E_rate_12 ?_
      refine lv_icmp_le (tgt := 27) hx hb d_E_rate_14 (by decide) (fun c_14 => ?_) (fun c_14 => ?_)
      · refine lv_aload_n hx hb d_E_rate_27 rfl (lv_at hl 1 rfl) ?_
        refine m_get (v := .ref (ad 1)) (C := R_E) (T := T_E) (N := 8) hx hb hT in_E hown hC.1 hm 0 rfl ((congrFun hG 0).trans gE_c0) rfl 1 (by decide) (hT _ k_88) (fun _ h9 => h9) rfl d_E_rate_28 ?_
        refine lv_iload hx hb d_E_rate_31 (lv_at hl 0 rfl) ?_
        refine lv_iload_n hx hb d_E_rate_33 rfl (lv_at hl 4 rfl) ?_
        refine m_iast hx hb hC.1 hm 1 rfl 0 ((congrFun hG 1).trans gE_c1) rfl (vp_in_nI (by omega) (by decide)) d_E_rate_34 (fun H locs hm => ?_)
        rw [nI_clamp (show 4 * a + b < 2 ^ 31 by omega)] at hm
        obtain ⟨G_3, eG_3⟩ : ∃ z : mG, z = va_up G 1 (some (.inl ((dA 0), 16, .inl (upd (I 1) (4 * a + b) p2)))) := ⟨_, rfl⟩
        have hm : mS D mCl (mA ad G s.heap.size) s.heap ad G_3 H locs := by rw [eG_3]; exact hm
        have g_4 := (congrFun eG_3 0).trans ((va_up_ne _ _ (by omega)).trans ((congrFun hG 0).trans gE_c0))
        have g_5 : G_3 1 = some (.inl ((dA 0), 16, .inl (upd (I 1) (4 * a + b) p2))) := by rw [eG_3, va_up_self]
        have g_6 := (congrFun eG_3 2).trans ((va_up_ne _ _ (by omega)).trans ((congrFun hG 2).trans gE_c2))
        have g_7 := (congrFun eG_3 3).trans ((va_up_ne _ _ (by omega)).trans ((congrFun hG 3).trans gE_c3))
        have g_8 := (congrFun eG_3 4).trans ((va_up_ne _ _ (by omega)).trans ((congrFun hG 4).trans gE_c4))
        have g_9 := (congrFun eG_3 5).trans ((va_up_ne _ _ (by omega)).trans ((congrFun hG 5).trans gE_c5))
        refine W.widen (k := 2) (n := 12) (by omega) (by omega) ?_
        refine vx_ret ?_
        exact m_vret hx hb hr hm (⟨a, b, ha4, hb4, ea, eb, fun h => h.elim c_8 (fun h => Int32.not_lt.mpr c_14 h), by rw [eG_3, hG, gE_urate]⟩) d_E_rate_35 hlocks
      · exact m_throwS (cls := "java/lang/IllegalArgumentException") (text := "rate is not 0 .. 1000000") (names := ["java/lang/RuntimeException", "java/lang/Exception"]) (tx := mTx) hx hb hlt hown (by decide +kernel) (by decide +kernel) (hT _ k_202) (hT _ k_9) (by decide +kernel) hC (at_IllegalArgumentException hT hC.2.2.2) (good_IllegalArgumentException) hm (hl.1.trans hml.symm) d_E_rate_17 d_E_rate_20 d_E_rate_21 d_E_rate_23 d_E_rate_26 hout (Nat.le_of_ble_eq_true rfl) (Nat.le_of_ble_eq_true rfl) (Nat.le_of_ble_eq_true rfl) (Nat.le_of_ble_eq_true rfl) hlocks (⟨Or.inr ⟨rfl, ⟨⟨a, ha4, ea⟩, ⟨b, hb4, eb⟩⟩, Or.inr (Int32.not_le.mp c_14)⟩, rfl⟩) (Nat.le_of_ble_eq_true rfl) (Nat.le_of_ble_eq_true rfl)

set_option maxHeartbeats 4000000 in
set_option maxRecDepth 100000 in
theorem c_E_limit (l : Launch) (hlt : l.stackTraces = false) (D : va_G) (dA : Nat → ClassId) (ad : Nat → Nat) (G : mG) (sz : Nat) (I : Nat → Nat → Int32) (J : Nat → Nat → Int64) (F : Nat → Nat → Nat → Int32) (si : Nat → Nat) (tc oc : Nat) (G0 : mG) (hG : G = gE dA ad I J F si tc oc G0) (ht : tc ≤ 12) (p0 : Int32) (p1 : Int64) : vx_Met l y_E_limit (.code y_E_limit b_E_limit 5 none :: mBig) ({ frames := 7, cells := 2, slots := 12, locals := 104 }) (mPc [.ref (ad 0), .int p0, .long p1] D mCl (mTys dA) mTx ad G sz) (mQv (fun (u : mU) => (∃ i, i < 4 ∧ p0 = nI i ∧ ¬ (p1 < 1 ∨ 1000000000000 < p1) ∧ u = (ad, gE dA ad I (up2 J 0 i p1) F si tc oc G0))) D mCl ad G sz) (mXC (fun (E : String) (u : mU) => ((E = "java/lang/IndexOutOfBoundsException" ∧ ¬ ∃ i, i < 4 ∧ p0 = nI i) ∨ (E = "java/lang/IllegalArgumentException" ∧ (∃ i, i < 4 ∧ p0 = nI i) ∧ (p1 < 1 ∨ 1000000000000 < p1))) ∧ u = (ad, G)) D mCl ad G sz) 2 12 (mA ad G sz) := by
  refine vx_ofW (cc := b_E_limit) (maxL := 5) (ret := none) (by decide) rfl ?_
  intro p e s m args below meth c s₁ B hml hout hv
  obtain ⟨rfl, hsz, hw0, hC⟩ := hv
  have hx := B.exec
  have hb := B.bytes
  have hr := B.returns
  have hts := atoms_spec (ws := .code y_E_limit b_E_limit 5 none :: mBig) B.pre
  have hT : ∀ w ∈ mBig, w.before _ s = true := fun w h => hts w (List.mem_cons_of_mem _ h)
  have hown : s.vm.findClass "EdgeWear" = some m.cls := findClass_of_methodNamed B.named
  have hlocks := B.notSynchronized
  subst hsz
  have hm := mS.start hw0
  have hA : ∀ q : Nat, s.heap.size ≤ q → mA ad G s.heap.size q := fun q h => Or.inr h
  have hl := lv_entry ([.ref (ad 0), .int p0, .long p1]) (n := 5) (Nat.le_of_ble_eq_true rfl)
  rw [lg_entry_eq]
  generalize (lg_sl ([.ref (ad 0), .int p0, .long p1]) ++ List.replicate (5 - (lg_sl ([.ref (ad 0), .int p0, .long p1])).length) Slot.unset).toArray = ls at hl ⊢
  have hl : lv_has ls 5 [(0, .ref (ad 0)), (1, .int p0), (2, .long p1)] := hl
  refine lv_aload_n hx hb d_E_limit_0 rfl (lv_at hl 0 rfl) ?_
  refine lv_iload_n hx hb d_E_limit_1 rfl (lv_at hl 1 rfl) ?_
  refine x_roq (x_runV (As := [.int p0]) (rest := []) ⟨hx, hb, hml, hown, hts⟩ (c_E_sortAt l hlt D dA ad G s.heap.size I J F si tc oc G0 hG ht p0) (cwV 1 hts (gV k_132 k_129 k_131 ks_0 k_1) rfl rfl rfl (by decide +kernel) ⟨Nat.le_of_ble_eq_true rfl, Nat.le_of_ble_eq_true rfl⟩) hm hA hC 0 rfl ((congrFun hG 0).trans gE_c0) rfl rfl rfl hl.1 rfl (Nat.le_of_ble_eq_true rfl) d_E_limit_2 ⟨Nat.le_of_ble_eq_true rfl, Nat.le_of_ble_eq_true rfl⟩) hm hA (fun E ce q9 H locs w_2 hm h7 h8 h9 => ?_) (fun r_1 H locs w_2 hm => ?_)
  · exact m_out hout hlocks hm h7 h8 h9 (by
      obtain ⟨rfl, hq⟩ := w_2
      exact ⟨Or.inl ⟨rfl, hq⟩, rfl⟩) (by decide) (by decide)
  · obtain ⟨i, hi, epi, er⟩ := w_2
    subst er
    rw [show va_rf (some (ad (10 + i))) = .ref (ad (10 + i)) from rfl]
    refine lv_astore (lv' := [(4, .ref (ad (10 + i))), (0, .ref (ad 0)), (1, .int p0), (2, .long p1)]) hx hb d_E_limit_5 hl (by decide) rfl (fun ls hl => ?_)
    refine lv_lload_n hx hb d_E_limit_7 rfl (lv_at hl 3 rfl) ?_
    refine lv_lconst (v := 1) hx hb d_E_limit_8 (by decide) ?_
    refine W.lcmp hx hb d_E_limit_9 ?_
    refine lv_if_lt (tgt := 21) hx hb d_E_limit_10 (by decide) (fun c_10 => ?_) (fun c_10 => ?_)
    · exact m_throwS (cls := "java/lang/IllegalArgumentException") (text := "limit is not 1 .. 10^12") (names := ["java/lang/RuntimeException", "java/lang/Exception"]) (tx := mTx) hx hb hlt hown (by decide +kernel) (by decide +kernel) (hT _ k_202) (hT _ k_9) (by decide +kernel) hC (at_IllegalArgumentException hT hC.2.2.2) (good_IllegalArgumentException) hm (hl.1.trans hml.symm) d_E_limit_21 d_E_limit_24 d_E_limit_25 d_E_limit_27 d_E_limit_30 hout (Nat.le_of_ble_eq_true rfl) (Nat.le_of_ble_eq_true rfl) (Nat.le_of_ble_eq_true rfl) (Nat.le_of_ble_eq_true rfl) hlocks (⟨Or.inr ⟨rfl, ⟨i, hi, epi⟩, Or.inl ((lg_lt _ _).mp c_10)⟩, rfl⟩) (Nat.le_of_ble_eq_true rfl) (Nat.le_of_ble_eq_true rfl)
    · refine lv_lload_n hx hb d_E_limit_13 rfl (lv_at hl 3 rfl) ?_
      refine lv_ldc2 (v := 1000000000000) hx hb hown (hT _ k_311) d_E_limit_14 ?_
      refine W.lcmp hx hb d_E_limit_17 ?_
      refine lv_if_le (tgt := 31) hx hb d_E_limit_18 (by decide) (fun c_18 => ?_) (fun c_18 => ?_)
      · refine lv_aload hx hb d_E_limit_31 (lv_at hl 0 rfl) ?_
        refine lv_lload_n hx hb d_E_limit_33 rfl (lv_at hl 3 rfl) ?_
        refine m_put (v := .long p1) (ty := .long) (C := R_So) (T := T_So) (N := 6) hx hb hT in_So t_So tok_So nm_So hown hC.1 hm (10 + i) rfl ((congrFun hG (10 + i)).trans (gE_so hi)) rfl 3 (by decide) (hT _ k_41) (fun _ h9 => h9) rfl (by decide +kernel) rfl rfl (Nat.le_of_ble_eq_true rfl) d_E_limit_34 (fun H locs hm => ?_)
        obtain ⟨G_3, eG_3⟩ : ∃ z : mG, z = va_up G (10 + i) (some (.inr (3, [.int (nI i), .ref (ad (20 + i)), .int (I 2 i), .long p1, .int (I 3 i), .int (I 4 i)]))) := ⟨_, rfl⟩
        have hm : mS D mCl (mA ad G s.heap.size) s.heap ad G_3 H locs := by rw [eG_3]; exact hm
        have g_4 := (congrFun eG_3 0).trans ((va_up_ne _ _ (by omega)).trans ((congrFun hG 0).trans gE_c0))
        have g_5 := (congrFun eG_3 1).trans ((va_up_ne _ _ (by omega)).trans ((congrFun hG 1).trans gE_c1))
        have g_6 := (congrFun eG_3 2).trans ((va_up_ne _ _ (by omega)).trans ((congrFun hG 2).trans gE_c2))
        have g_7 := (congrFun eG_3 3).trans ((va_up_ne _ _ (by omega)).trans ((congrFun hG 3).trans gE_c3))
        have g_8 := (congrFun eG_3 4).trans ((va_up_ne _ _ (by omega)).trans ((congrFun hG 4).trans gE_c4))
        have g_9 := (congrFun eG_3 5).trans ((va_up_ne _ _ (by omega)).trans ((congrFun hG 5).trans gE_c5))
        have g_10 : G_3 (10 + i) = some (.inr (3, [.int (nI i), .ref (ad (20 + i)), .int (I 2 i), .long p1, .int (I 3 i), .int (I 4 i)])) := by rw [eG_3, va_up_self]
        have g_11 := (congrFun eG_3 (20 + i)).trans ((va_up_ne _ _ (by omega)).trans ((congrFun hG (20 + i)).trans (gE_li hi)))
        refine W.widen (k := 2) (n := 12) (by omega) (by omega) ?_
        refine vx_ret ?_
        exact m_vret hx hb hr hm (⟨i, hi, epi, fun h => h.elim (fun h => c_10 ((lg_lt _ _).mpr h)) (fun h => (lg_le _ _).mp c_18 h), by rw [eG_3, hG, gE_usort hi, up2_id, up2_id, up2_id]⟩) d_E_limit_37 hlocks
      · exact m_throwS (cls := "java/lang/IllegalArgumentException") (text := "limit is not 1 .. 10^12") (names := ["java/lang/RuntimeException", "java/lang/Exception"]) (tx := mTx) hx hb hlt hown (by decide +kernel) (by decide +kernel) (hT _ k_202) (hT _ k_9) (by decide +kernel) hC (at_IllegalArgumentException hT hC.2.2.2) (good_IllegalArgumentException) hm (hl.1.trans hml.symm) d_E_limit_21 d_E_limit_24 d_E_limit_25 d_E_limit_27 d_E_limit_30 hout (Nat.le_of_ble_eq_true rfl) (Nat.le_of_ble_eq_true rfl) (Nat.le_of_ble_eq_true rfl) (Nat.le_of_ble_eq_true rfl) hlocks (⟨Or.inr ⟨rfl, ⟨i, hi, epi⟩, Or.inr (Classical.not_not.mp (fun q => c_18 ((lg_le _ _).mpr q)))⟩, rfl⟩) (Nat.le_of_ble_eq_true rfl) (Nat.le_of_ble_eq_true rfl)

set_option maxHeartbeats 4000000 in
set_option maxRecDepth 100000 in
theorem c_E_grind (l : Launch) (hlt : l.stackTraces = false) (D : va_G) (dA : Nat → ClassId) (ad : Nat → Nat) (G : mG) (sz : Nat) (I : Nat → Nat → Int32) (J : Nat → Nat → Int64) (F : Nat → Nat → Nat → Int32) (si : Nat → Nat) (tc oc : Nat) (G0 : mG) (hG : G = gE dA ad I J F si tc oc G0) (ht : tc ≤ 12) (p0 p1 : Int32) : vx_Met l y_E_grind (.code y_E_grind b_E_grind 4 (some .boolean) :: mBig) ({ frames := 7, cells := 2, slots := 12, locals := 104 }) (mPc [.ref (ad 0), .int p0, .int p1] D mCl (mTys dA) mTx ad G sz) (mQi (fun (rv : Int32) (u : mU) => (∃ i, i < tc ∧ p0 = nI i ∧ ¬ (p1 < 1 ∨ 1000000 < p1) ∧ I 7 i = 0 ∧ (if I 5 i - p1 < I 6 i then rv = 0 ∧ u = (ad, gE dA ad (up2 I 7 i 1) J F si tc oc G0) else rv = 1 ∧ u = (ad, gE dA ad (up2 I 5 i (I 5 i - p1)) (up2 (up2 J 1 i 0) 3 i (J 3 i + 1)) F si tc oc G0)))) D mCl ad G sz) (mXC (fun (E : String) (u : mU) => ((E = "java/lang/IndexOutOfBoundsException" ∧ ¬ (∃ i, i < tc ∧ p0 = nI i)) ∨ (E = "java/lang/IllegalArgumentException" ∧ (∃ i, i < tc ∧ p0 = nI i) ∧ (p1 < 1 ∨ 1000000 < p1)) ∨ (E = "java/lang/IllegalStateException" ∧ (∃ i, i < tc ∧ p0 = nI i ∧ ¬ I 7 i = 0) ∧ ¬ (p1 < 1 ∨ 1000000 < p1))) ∧ u = (ad, G)) D mCl ad G sz) 2 12 (mA ad G sz) := by
  refine vx_ofW (cc := b_E_grind) (maxL := 4) (ret := (some .boolean)) (by decide) rfl ?_
  intro p e s m args below meth c s₁ B hml hout hv
  obtain ⟨rfl, hsz, hw0, hC⟩ := hv
  have hx := B.exec
  have hb := B.bytes
  have hr := B.returns
  have hts := atoms_spec (ws := .code y_E_grind b_E_grind 4 (some .boolean) :: mBig) B.pre
  have hT : ∀ w ∈ mBig, w.before _ s = true := fun w h => hts w (List.mem_cons_of_mem _ h)
  have hown : s.vm.findClass "EdgeWear" = some m.cls := findClass_of_methodNamed B.named
  have hlocks := B.notSynchronized
  subst hsz
  have hm := mS.start hw0
  have hA : ∀ q : Nat, s.heap.size ≤ q → mA ad G s.heap.size q := fun q h => Or.inr h
  have hl := lv_entry ([.ref (ad 0), .int p0, .int p1]) (n := 4) (Nat.le_of_ble_eq_true rfl)
  rw [lg_entry_eq]
  generalize (lg_sl ([.ref (ad 0), .int p0, .int p1]) ++ List.replicate (4 - (lg_sl ([.ref (ad 0), .int p0, .int p1])).length) Slot.unset).toArray = ls at hl ⊢
  have hl : lv_has ls 4 [(0, .ref (ad 0)), (1, .int p0), (2, .int p1)] := hl
  refine lv_aload_n hx hb d_E_grind_0 rfl (lv_at hl 0 rfl) ?_
  refine lv_iload_n hx hb d_E_grind_1 rfl (lv_at hl 1 rfl) ?_
  refine x_roq (x_runV (As := [.int p0]) (rest := []) ⟨hx, hb, hml, hown, hts⟩ (c_E_toolAt l hlt D dA ad G s.heap.size I J F si tc oc G0 hG ht p0) (cwV 1 hts (gV k_323 k_320 k_322 ks_2 k_1) rfl rfl rfl (by decide +kernel) ⟨Nat.le_of_ble_eq_true rfl, Nat.le_of_ble_eq_true rfl⟩) hm hA hC 0 rfl ((congrFun hG 0).trans gE_c0) rfl rfl rfl hl.1 rfl (Nat.le_of_ble_eq_true rfl) d_E_grind_2 ⟨Nat.le_of_ble_eq_true rfl, Nat.le_of_ble_eq_true rfl⟩) hm hA (fun E ce q9 H locs w_2 hm h7 h8 h9 => ?_) (fun r_1 H locs w_2 hm => ?_)
  · exact m_out hout hlocks hm h7 h8 h9 (by
      obtain ⟨rfl, hq⟩ := w_2
      exact ⟨Or.inl ⟨rfl, hq⟩, rfl⟩) (by decide) (by decide)
  · obtain ⟨i, hi, epi, er⟩ := w_2
    subst er
    rw [show va_rf (some (ad (100 + i))) = .ref (ad (100 + i)) from rfl]
    refine lv_astore_n (lv' := [(3, .ref (ad (100 + i))), (0, .ref (ad 0)), (1, .int p0), (2, .int p1)]) hx hb d_E_grind_5 rfl hl (by decide) rfl (fun ls hl => ?_)
    refine lv_iload_n hx hb d_E_grind_6 rfl (lv_at hl 3 rfl) ?_
    refine lv_iconst (v := 1) hx hb d_E_grind_7 (by decide) ?_
    refine lv_icmp_lt (tgt := 17) hx hb d_E_grind_8 (by decide) (fun c_8 => ?_) (fun c_8 => ?_)
    · exact m_throwS (cls := "java/lang/IllegalArgumentException") (text := "off is not 1 .. 1000000") (names := ["java/lang/RuntimeException", "java/lang/Exception"]) (tx := mTx) hx hb hlt hown (by decide +kernel) (by decide +kernel) (hT _ k_202) (hT _ k_9) (by decide +kernel) hC (at_IllegalArgumentException hT hC.2.2.2) (good_IllegalArgumentException) hm (hl.1.trans hml.symm) d_E_grind_17 d_E_grind_20 d_E_grind_21 d_E_grind_23 d_E_grind_26 hout (Nat.le_of_ble_eq_true rfl) (Nat.le_of_ble_eq_true rfl) (Nat.le_of_ble_eq_true rfl) (Nat.le_of_ble_eq_true rfl) hlocks (⟨Or.inr (Or.inl ⟨rfl, ⟨i, hi, epi⟩, Or.inl c_8⟩), rfl⟩) (Nat.le_of_ble_eq_true rfl) (Nat.le_of_ble_eq_true rfl)
    · refine lv_iload_n hx hb d_E_grind_11 rfl (lv_at hl 3 rfl) ?_
      refine lv_ldc (v := 1000000) hx hb hown (hT _ k_201) d_E_grind_12 ?_
      refine lv_icmp_le (tgt := 27) hx hb d_E_grind_14 (by decide) (fun c_14 => ?_) (fun c_14 => ?_)
      · refine lv_aload_n hx hb d_E_grind_27 rfl (lv_at hl 0 rfl) ?_
        refine m_get (v := .int (I 7 i)) (C := R_To) (T := T_To) (N := 9) hx hb hT in_To hown hC.1 hm (100 + i) rfl ((congrFun hG (100 + i)).trans (gE_to hi ht)) rfl 7 (by decide) (hT _ k_270) (fun _ h9 => h9) rfl d_E_grind_28 ?_
        refine lv_if_eq (tgt := 44) hx hb d_E_grind_31 (by decide) (fun c_31 => ?_) (fun c_31 => ?_)
        · refine lv_aload_n hx hb d_E_grind_44 rfl (lv_at hl 0 rfl) ?_
          refine lv_iload_n hx hb d_E_grind_45 rfl (lv_at hl 3 rfl) ?_
          refine m_calli (m_runV (As := [.int p1]) (rest := []) ⟨hx, hb, hml, hown, hts⟩ (c_To_grindOrBar l D dA ad G H.size (100 + i) (10 + si i) (200 + i) (I 6 i) (I 5 i) (J 1 i) (J 2 i) (J 3 i) (I 7 i) (I 8 i) p1 ((congrFun hG (100 + i)).trans (gE_to hi ht))) (cwV 1 hts (gV k_350 k_347 k_348 k_349 k_11) rfl rfl rfl (by decide +kernel) ⟨Nat.le_of_ble_eq_true rfl, Nat.le_of_ble_eq_true rfl⟩) hm hA hC (100 + i) rfl ((congrFun hG (100 + i)).trans (gE_to hi ht)) rfl rfl rfl hl.1 rfl (Nat.le_of_ble_eq_true rfl) d_E_grind_46 ⟨Nat.le_of_ble_eq_true rfl, Nat.le_of_ble_eq_true rfl⟩) hm hA (fun r_3 ad_6 G_5 H locs w_4 hm => ?_)
          refine W.widen (k := 2) (n := 12) (by omega) (by omega) ?_
          refine vx_ret ?_
          exact m_zret (v := r_3) hx hb hr (by
            have h9 := w_4
            by_cases hq : I 5 i - p1 < I 6 i
            · rw [if_pos hq] at h9; rw [h9.1]; rfl
            · rw [if_neg hq] at h9; rw [h9.1]; rfl) hm (⟨i, hi, epi, fun h => h.elim c_8 (fun h => Int32.not_lt.mpr c_14 h), c_31, by
            have h9 := w_4
            by_cases hq : I 5 i - p1 < I 6 i
            · rw [if_pos hq] at h9 ⊢
              refine ⟨h9.1, ?_⟩
              rw [h9.2, hG, gE_utool hi ht]
              rw [up2_id, up2_i2 I _ (show 8 ≠ 7 by decide), up2_id, up2_id, up2_id]
            · rw [if_neg hq] at h9 ⊢
              refine ⟨h9.1, ?_⟩
              rw [h9.2, hG, gE_utool hi ht]
              rw [up2_i2 I _ (show 7 ≠ 5 by decide), up2_i2 I _ (show 8 ≠ 5 by decide), up2_i2 J _ (show 2 ≠ 1 by decide)]⟩) d_E_grind_49 hlocks
        · exact m_throwS (cls := "java/lang/IllegalStateException") (text := "the tool is barred") (names := ["java/lang/RuntimeException", "java/lang/Exception"]) (tx := mTx) hx hb hlt hown (by decide +kernel) (by decide +kernel) (hT _ k_218) (hT _ k_10) (by decide +kernel) hC (at_IllegalStateException hT hC.2.2.2) (good_IllegalStateException) hm (hl.1.trans hml.symm) d_E_grind_34 d_E_grind_37 d_E_grind_38 d_E_grind_40 d_E_grind_43 hout (Nat.le_of_ble_eq_true rfl) (Nat.le_of_ble_eq_true rfl) (Nat.le_of_ble_eq_true rfl) (Nat.le_of_ble_eq_true rfl) hlocks (⟨Or.inr (Or.inr ⟨rfl, ⟨i, hi, epi, c_31⟩, fun h => h.elim c_8 (fun h => Int32.not_lt.mpr c_14 h)⟩), rfl⟩) (Nat.le_of_ble_eq_true rfl) (Nat.le_of_ble_eq_true rfl)
      · exact m_throwS (cls := "java/lang/IllegalArgumentException") (text := "off is not 1 .. 1000000") (names := ["java/lang/RuntimeException", "java/lang/Exception"]) (tx := mTx) hx hb hlt hown (by decide +kernel) (by decide +kernel) (hT _ k_202) (hT _ k_9) (by decide +kernel) hC (at_IllegalArgumentException hT hC.2.2.2) (good_IllegalArgumentException) hm (hl.1.trans hml.symm) d_E_grind_17 d_E_grind_20 d_E_grind_21 d_E_grind_23 d_E_grind_26 hout (Nat.le_of_ble_eq_true rfl) (Nat.le_of_ble_eq_true rfl) (Nat.le_of_ble_eq_true rfl) (Nat.le_of_ble_eq_true rfl) hlocks (⟨Or.inr (Or.inl ⟨rfl, ⟨i, hi, epi⟩, Or.inr (Int32.not_le.mp c_14)⟩), rfl⟩) (Nat.le_of_ble_eq_true rfl) (Nat.le_of_ble_eq_true rfl)

set_option maxHeartbeats 4000000 in
set_option maxRecDepth 100000 in
theorem c_E_bring (l : Launch) (hlt : l.stackTraces = false) (D : va_G) (dA : Nat → ClassId) (ad : Nat → Nat) (G : mG) (sz : Nat) (I : Nat → Nat → Int32) (J : Nat → Nat → Int64) (F : Nat → Nat → Nat → Int32) (si : Nat → Nat) (tc oc : Nat) (G0 : mG) (hG : G = gE dA ad I J F si tc oc G0) (ht : tc ≤ 12) (hz : ∀ i, i < tc → I 8 i = 0 ∨ I 8 i = 1) (p0 : Int32) : vx_Met l y_E_bring (.code y_E_bring b_E_bring 4 (some .boolean) :: mBig) ({ frames := 7, cells := 1, slots := 6, locals := 104 }) (mPc [.ref (ad 0), .int p0] D mCl (mTys dA) mTx ad G sz) (mQi (fun (rv : Int32) (u : mU) => (∃ i, i < tc ∧ p0 = nI i ∧ rv = I 8 i ∧ u = (ad, gE dA ad (up2 I 8 i 0) J F si tc oc G0))) D mCl ad G sz) (mXC (fun (E : String) (u : mU) => (E = "java/lang/IndexOutOfBoundsException" ∧ ¬ (∃ i, i < tc ∧ p0 = nI i)) ∧ u = (ad, G)) D mCl ad G sz) 1 6 (mA ad G sz) := by
  refine vx_ofW (cc := b_E_bring) (maxL := 4) (ret := (some .boolean)) (by decide) rfl ?_
  intro p e s m args below meth c s₁ B hml hout hv
  obtain ⟨rfl, hsz, hw0, hC⟩ := hv
  have hx := B.exec
  have hb := B.bytes
  have hr := B.returns
  have hts := atoms_spec (ws := .code y_E_bring b_E_bring 4 (some .boolean) :: mBig) B.pre
  have hT : ∀ w ∈ mBig, w.before _ s = true := fun w h => hts w (List.mem_cons_of_mem _ h)
  have hown : s.vm.findClass "EdgeWear" = some m.cls := findClass_of_methodNamed B.named
  have hlocks := B.notSynchronized
  subst hsz
  have hm := mS.start hw0
  have hA : ∀ q : Nat, s.heap.size ≤ q → mA ad G s.heap.size q := fun q h => Or.inr h
  have hl := lv_entry ([.ref (ad 0), .int p0]) (n := 4) (Nat.le_of_ble_eq_true rfl)
  rw [lg_entry_eq]
  generalize (lg_sl ([.ref (ad 0), .int p0]) ++ List.replicate (4 - (lg_sl ([.ref (ad 0), .int p0])).length) Slot.unset).toArray = ls at hl ⊢
  have hl : lv_has ls 4 [(0, .ref (ad 0)), (1, .int p0)] := hl
  refine lv_aload_n hx hb d_E_bring_0 rfl (lv_at hl 0 rfl) ?_
  refine lv_iload_n hx hb d_E_bring_1 rfl (lv_at hl 1 rfl) ?_
  refine x_roq (x_runV (As := [.int p0]) (rest := []) ⟨hx, hb, hml, hown, hts⟩ (c_E_toolAt l hlt D dA ad G s.heap.size I J F si tc oc G0 hG ht p0) (cwV 1 hts (gV k_323 k_320 k_322 ks_2 k_1) rfl rfl rfl (by decide +kernel) ⟨Nat.le_of_ble_eq_true rfl, Nat.le_of_ble_eq_true rfl⟩) hm hA hC 0 rfl ((congrFun hG 0).trans gE_c0) rfl rfl rfl hl.1 rfl (Nat.le_of_ble_eq_true rfl) d_E_bring_2 ⟨Nat.le_of_ble_eq_true rfl, Nat.le_of_ble_eq_true rfl⟩) hm hA (fun E ce q9 H locs w_2 hm h7 h8 h9 => ?_) (fun r_1 H locs w_2 hm => ?_)
  · exact m_out hout hlocks hm h7 h8 h9 (by
      obtain ⟨rfl, hq⟩ := w_2
      exact ⟨⟨rfl, hq⟩, rfl⟩) (by decide) (by decide)
  · obtain ⟨i, hi, epi, er⟩ := w_2
    subst er
    rw [show va_rf (some (ad (100 + i))) = .ref (ad (100 + i)) from rfl]
    refine lv_astore_n (lv' := [(2, .ref (ad (100 + i))), (0, .ref (ad 0)), (1, .int p0)]) hx hb d_E_bring_5 rfl hl (by decide) rfl (fun ls hl => ?_)
    refine lv_aload_n hx hb d_E_bring_6 rfl (lv_at hl 0 rfl) ?_
    refine m_get (v := .int (I 8 i)) (C := R_To) (T := T_To) (N := 9) hx hb hT in_To hown hC.1 hm (100 + i) rfl ((congrFun hG (100 + i)).trans (gE_to hi ht)) rfl 8 (by decide) (hT _ k_272) (fun _ h9 => h9) rfl d_E_bring_7 ?_
    refine lv_istore_n (lv' := [(3, .int (I 8 i)), (2, .ref (ad (100 + i))), (0, .ref (ad 0)), (1, .int p0)]) hx hb d_E_bring_10 rfl hl (by decide) rfl (fun ls hl => ?_)
    refine lv_aload_n hx hb d_E_bring_11 rfl (lv_at hl 1 rfl) ?_
    refine lv_iconst (v := 0) hx hb d_E_bring_12 (by decide) ?_
    refine m_put (v := .int 0) (ty := .boolean) (C := R_To) (T := T_To) (N := 9) hx hb hT in_To t_To tok_To nm_To hown hC.1 hm (100 + i) rfl ((congrFun hG (100 + i)).trans (gE_to hi ht)) rfl 8 (by decide) (hT _ k_272) (fun _ h9 => h9) rfl (by decide +kernel) rfl rfl (Nat.le_of_ble_eq_true rfl) d_E_bring_13 (fun H locs hm => ?_)
    obtain ⟨G_3, eG_3⟩ : ∃ z : mG, z = va_up G (100 + i) (some (.inr (4, [.ref (ad (10 + si i)), .int (I 6 i), .ref (ad (200 + i)), .int (I 5 i), .long (J 1 i), .long (J 2 i), .long (J 3 i), .int (I 7 i), .int 0]))) := ⟨_, rfl⟩
    have hm : mS D mCl (mA ad G s.heap.size) s.heap ad G_3 H locs := by rw [eG_3]; exact hm
    have g_4 := (congrFun eG_3 0).trans ((va_up_ne _ _ (by omega)).trans ((congrFun hG 0).trans gE_c0))
    have g_5 := (congrFun eG_3 1).trans ((va_up_ne _ _ (by omega)).trans ((congrFun hG 1).trans gE_c1))
    have g_6 := (congrFun eG_3 2).trans ((va_up_ne _ _ (by omega)).trans ((congrFun hG 2).trans gE_c2))
    have g_7 := (congrFun eG_3 3).trans ((va_up_ne _ _ (by omega)).trans ((congrFun hG 3).trans gE_c3))
    have g_8 := (congrFun eG_3 4).trans ((va_up_ne _ _ (by omega)).trans ((congrFun hG 4).trans gE_c4))
    have g_9 := (congrFun eG_3 5).trans ((va_up_ne _ _ (by omega)).trans ((congrFun hG 5).trans gE_c5))
    have g_10 : G_3 (100 + i) = some (.inr (4, [.ref (ad (10 + si i)), .int (I 6 i), .ref (ad (200 + i)), .int (I 5 i), .long (J 1 i), .long (J 2 i), .long (J 3 i), .int (I 7 i), .int 0])) := by rw [eG_3, va_up_self]
    refine lv_iload_n hx hb d_E_bring_16 rfl (lv_at hl 0 rfl) ?_
    refine vx_ret ?_
    exact m_zret (v := I 8 i) hx hb hr (by rcases hz i hi with h | h <;> rw [h] <;> rfl) hm (⟨i, hi, epi, rfl, by rw [eG_3, hG, gE_utool hi ht]; simp only [up2_id]⟩) d_E_bring_17 hlocks
