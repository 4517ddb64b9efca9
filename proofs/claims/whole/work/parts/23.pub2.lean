set_option maxHeartbeats 4000000 in
set_option maxRecDepth 100000 in
theorem c_E_use (l : Launch) (hlt : l.stackTraces = false) (D : va_G) (dA : Nat → ClassId) (ad : Nat → Nat) (G : mG) (sz : Nat) (I : Nat → Nat → Int32) (J : Nat → Nat → Int64) (F : Nat → Nat → Nat → Int32) (si : Nat → Nat) (tc oc : Nat) (G0 : mG) (hG : G = gE dA ad I J F si tc oc G0) (ht : tc ≤ 12) (hs : ∀ i, i < tc → si i < 4) (p0 p1 p2 p3 : Int32) : vx_Met l y_E_use (.code y_E_use b_E_use 7 (some .boolean) :: mBig) ({ frames := 7, cells := 3, slots := 18, locals := 104 }) (mPc [.ref (ad 0), .int p0, .int p1, .int p2, .int p3] D mCl (mTys dA) mTx ad G sz) (mQi (fun (rv : Int32) (u : mU) => (∃ i a b, i < tc ∧ p0 = nI i ∧ a < 4 ∧ p2 = nI a ∧ b < 4 ∧ p3 = nI b ∧ ¬ (p1 < 0 ∨ 1000000 < p1) ∧ I 7 i = 0 ∧ bv rv (¬ J 0 (si i) < eWear (J 1 i) (p1.toInt64 * (I 1 (4 * a + b)).toInt64)) ∧ u = (ad, gE dA ad I (up2 (up2 J 1 i (eWear (J 1 i) (p1.toInt64 * (I 1 (4 * a + b)).toInt64))) 2 i (J 2 i + 1)) F si tc oc G0))) D mCl ad G sz) (mXC (fun (E : String) (u : mU) => ((E = "java/lang/IndexOutOfBoundsException" ∧ ¬ ((∃ i, i < tc ∧ p0 = nI i) ∧ (∃ a, a < 4 ∧ p2 = nI a) ∧ ∃ b, b < 4 ∧ p3 = nI b)) ∨ (E = "java/lang/IllegalArgumentException" ∧ ((∃ i, i < tc ∧ p0 = nI i) ∧ (∃ a, a < 4 ∧ p2 = nI a) ∧ ∃ b, b < 4 ∧ p3 = nI b) ∧ (p1 < 0 ∨ 1000000 < p1)) ∨ (E = "java/lang/IllegalStateException" ∧ (∃ i, i < tc ∧ p0 = nI i ∧ ¬ I 7 i = 0) ∧ (∃ a, a < 4 ∧ p2 = nI a) ∧ (∃ b, b < 4 ∧ p3 = nI b) ∧ ¬ (p1 < 0 ∨ 1000000 < p1))) ∧ u = (ad, G)) D mCl ad G sz) 3 18 (mA ad G sz) := by
  refine vx_ofW (cc := b_E_use) (maxL := 7) (ret := (some .boolean)) (by decide) rfl ?_
  intro p e s m args below meth c s₁ B hml hout hv
  obtain ⟨rfl, hsz, hw0, hC⟩ := hv
  have hx := B.exec
  have hb := B.bytes
  have hr := B.returns
  have hts := atoms_spec (ws := .code y_E_use b_E_use 7 (some .boolean) :: mBig) B.pre
  have hT : ∀ w ∈ mBig, w.before _ s = true := fun w h => hts w (List.mem_cons_of_mem _ h)
  have hown : s.vm.findClass "EdgeWear" = some m.cls := findClass_of_methodNamed B.named
  have hlocks := B.notSynchronized
  subst hsz
  have hm := mS.start hw0
  have hA : ∀ q : Nat, s.heap.size ≤ q → mA ad G s.heap.size q := fun q h => Or.inr h
  have hl := lv_entry ([.ref (ad 0), .int p0, .int p1, .int p2, .int p3]) (n := 7) (Nat.le_of_ble_eq_true rfl)
  rw [lg_entry_eq]
  generalize (lg_sl ([.ref (ad 0), .int p0, .int p1, .int p2, .int p3]) ++ List.replicate (7 - (lg_sl ([.ref (ad 0), .int p0, .int p1, .int p2, .int p3])).length) Slot.unset).toArray = ls at hl ⊢
  have hl : lv_has ls 7 [(0, .ref (ad 0)), (1, .int p0), (2, .int p1), (3, .int p2), (4, .int p3)] := hl
  refine lv_aload_n hx hb d_E_use_0 rfl (lv_at hl 0 rfl) ?_
  refine lv_iload_n hx hb d_E_use_1 rfl (lv_at hl 1 rfl) ?_
  refine x_roq (x_runV (As := [.int p0]) (rest := []) ⟨hx, hb, hml, hown, hts⟩ (c_E_toolAt l hlt D dA ad G s.heap.size I J F si tc oc G0 hG ht p0) (cwV 1 hts (gV k_323 k_320 k_322 ks_2 k_1) rfl rfl rfl (by decide +kernel) ⟨Nat.le_of_ble_eq_true rfl, Nat.le_of_ble_eq_true rfl⟩) hm hA hC 0 rfl ((congrFun hG 0).trans gE_c0) rfl rfl rfl hl.1 rfl (Nat.le_of_ble_eq_true rfl) d_E_use_2 ⟨Nat.le_of_ble_eq_true rfl, Nat.le_of_ble_eq_true rfl⟩) hm hA (fun E ce q9 H locs w_2 hm h7 h8 h9 => ?_) (fun r_1 H locs w_2 hm => ?_)
  · exact m_out hout hlocks hm h7 h8 h9 (by
      obtain ⟨rfl, hq⟩ := w_2
      exact ⟨Or.inl ⟨rfl, fun h => hq h.1⟩, rfl⟩) (by decide) (by decide)
  · obtain ⟨i, hi, epi, er⟩ := w_2
    subst er
    rw [show va_rf (some (ad (100 + i))) = .ref (ad (100 + i)) from rfl]
    refine lv_astore (lv' := [(5, .ref (ad (100 + i))), (0, .ref (ad 0)), (1, .int p0), (2, .int p1), (3, .int p2), (4, .int p3)]) hx hb d_E_use_5 hl (by decide) rfl (fun ls hl => ?_)
    refine lv_iload_n hx hb d_E_use_7 rfl (lv_at hl 4 rfl) ?_
    refine lv_iload hx hb d_E_use_8 (lv_at hl 5 rfl) ?_
    refine x_roi (x_runS (As := [.int p2, .int p3]) (rest := []) ⟨hx, hb, hml, hown, hts⟩ (c_E_rateIndex l hlt D dA ad G H.size I J F si tc oc G0 hG ht p2 p3) (va_cwS 2 hts (gS k_301 k_299 k_300 k_1) rfl rfl rfl (by decide +kernel) ⟨Nat.le_of_ble_eq_true rfl, Nat.le_of_ble_eq_true rfl⟩) hm hA hC rfl hl.1 rfl (Nat.le_of_ble_eq_true rfl) d_E_use_10 ⟨Nat.le_of_ble_eq_true rfl, Nat.le_of_ble_eq_true rfl⟩) hm hA (fun E ce q9 H locs w_4 hm h7 h8 h9 => ?_) (fun r_3 H locs w_4 hm => ?_)
    · exact m_out hout hlocks hm h7 h8 h9 (by
        obtain ⟨rfl, hq⟩ := w_4
        exact ⟨Or.inl ⟨rfl, fun h => hq h.2⟩, rfl⟩) (by decide) (by decide)
    · obtain ⟨a, b, ha4, hb4, ea, eb, er⟩ := w_4
      subst er
      refine lv_istore (lv' := [(6, .int (nI (4 * a + b))), (5, .ref (ad (100 + i))), (0, .ref (ad 0)), (1, .int p0), (2, .int p1), (3, .int p2), (4, .int p3)]) hx hb d_E_use_13 hl (by decide) rfl (fun ls hl => ?_)
      refine lv_iload_n hx hb d_E_use_15 rfl (lv_at hl 4 rfl) ?_
      refine lv_if_lt (tgt := 25) hx hb d_E_use_16 (by decide) (fun c_16 => ?_) (fun c_16 => ?_)
      · exact m_throwS (cls := "java/lang/IllegalArgumentException") (text := "metres are not 0 .. 1000000") (names := ["java/lang/RuntimeException", "java/lang/Exception"]) (tx := mTx) hx hb hlt hown (by decide +kernel) (by decide +kernel) (hT _ k_202) (hT _ k_9) (by decide +kernel) hC (at_IllegalArgumentException hT hC.2.2.2) (good_IllegalArgumentException) hm (hl.1.trans hml.symm) d_E_use_25 d_E_use_28 d_E_use_29 d_E_use_31 d_E_use_34 hout (Nat.le_of_ble_eq_true rfl) (Nat.le_of_ble_eq_true rfl) (Nat.le_of_ble_eq_true rfl) (Nat.le_of_ble_eq_true rfl) hlocks (⟨Or.inr (Or.inl ⟨rfl, ⟨⟨i, hi, epi⟩, ⟨a, ha4, ea⟩, ⟨b, hb4, eb⟩⟩, Or.inl c_16⟩), rfl⟩) (Nat.le_of_ble_eq_true rfl) (Nat.le_of_ble_eq_true rfl)
      · refine lv_iload_n hx hb d_E_use_19 rfl (lv_at hl 4 rfl) ?_
        refine lv_ldc (v := 1000000) hx hb hown (hT _ k_201) d_E_use_20 ?_
        refine lv_icmp_le (tgt := 35) hx hb d_E_use_22 (by decide) (fun c_22 => ?_) (fun c_22 => ?_)
        · refine lv_aload hx hb d_E_use_35 (lv_at hl 1 rfl) ?_
          refine m_get (v := .int (I 7 i)) (C := R_To) (T := T_To) (N := 9) hx hb hT in_To hown hC.1 hm (100 + i) rfl ((congrFun hG (100 + i)).trans (gE_to hi ht)) rfl 7 (by decide) (hT _ k_270) (fun _ h9 => h9) rfl d_E_use_37 ?_
          refine lv_if_eq (tgt := 53) hx hb d_E_use_40 (by decide) (fun c_40 => ?_) (fun c_40 => ?_)
          · refine lv_aload hx hb d_E_use_53 (lv_at hl 1 rfl) ?_
            refine lv_iload_n hx hb d_E_use_55 rfl (lv_at hl 4 rfl) ?_
            refine lv_i2l hx hb d_E_use_56 rfl ?_
            refine lv_topl (fun x_5 ex_5 => ?_)
            refine lv_aload_n hx hb d_E_use_57 rfl (lv_at hl 2 rfl) ?_
            refine m_get (v := .ref (ad 1)) (C := R_E) (T := T_E) (N := 8) hx hb hT in_E hown hC.1 hm 0 rfl ((congrFun hG 0).trans gE_c0) rfl 1 (by decide) (hT _ k_88) (fun _ h9 => h9) rfl d_E_use_58 ?_
            refine lv_iload hx hb d_E_use_61 (lv_at hl 0 rfl) ?_
            refine m_iald (v := I 1 (4 * a + b)) hx hb hC.1 hm 1 rfl 0 ((congrFun hG 1).trans gE_c1) rfl (vp_in_nI (by omega) (by decide)) (by rw [nI_clamp (by omega)]) d_E_use_63 ?_
            refine lv_i2l hx hb d_E_use_64 rfl ?_
            refine lv_topl (fun x_6 ex_6 => ?_)
            refine lv_lmul hx hb d_E_use_65 ?_
            refine lv_topl (fun x_7 ex_7 => ?_)
            refine m_callv (m_runV (As := [.long x_7]) (rest := []) ⟨hx, hb, hml, hown, hts⟩ (c_To_wearBy l D dA ad G H.size (100 + i) (10 + si i) (200 + i) (I 6 i) (I 5 i) (J 1 i) (J 2 i) (J 3 i) (I 7 i) (I 8 i) x_7 ((congrFun hG (100 + i)).trans (gE_to hi ht))) (cwV 1 hts (gV k_330 k_327 k_328 k_329 k_11) rfl rfl rfl (by decide +kernel) ⟨Nat.le_of_ble_eq_true rfl, Nat.le_of_ble_eq_true rfl⟩) hm hA hC (100 + i) rfl ((congrFun hG (100 + i)).trans (gE_to hi ht)) rfl rfl rfl hl.1 rfl (Nat.le_of_ble_eq_true rfl) d_E_use_66 ⟨Nat.le_of_ble_eq_true rfl, Nat.le_of_ble_eq_true rfl⟩) hm hA (fun ad_11 G_10 H locs w_9 hm => ?_)
            have hsi := hs i hi
            obtain ⟨ea9, eG_10⟩ := Prod.mk.inj w_9
            rw [ea9] at hm
            have g_12 := (congrFun eG_10 0).trans ((va_up_ne _ _ (by omega)).trans ((congrFun hG 0).trans gE_c0))
            have g_13 := (congrFun eG_10 1).trans ((va_up_ne _ _ (by omega)).trans ((congrFun hG 1).trans gE_c1))
            have g_14 := (congrFun eG_10 2).trans ((va_up_ne _ _ (by omega)).trans ((congrFun hG 2).trans gE_c2))
            have g_15 := (congrFun eG_10 3).trans ((va_up_ne _ _ (by omega)).trans ((congrFun hG 3).trans gE_c3))
            have g_16 := (congrFun eG_10 4).trans ((va_up_ne _ _ (by omega)).trans ((congrFun hG 4).trans gE_c4))
            have g_17 := (congrFun eG_10 5).trans ((va_up_ne _ _ (by omega)).trans ((congrFun hG 5).trans gE_c5))
            have g_18 : G_10 (100 + i) = some (.inr (4, [.ref (ad (10 + si i)), .int (I 6 i), .ref (ad (200 + i)), .int (I 5 i), .long (if 1000000000000000 < (J 1 i) + x_7 then 1000000000000000 else (J 1 i) + x_7), .long (J 2 i + 1), .long (J 3 i), .int (I 7 i), .int (I 8 i)])) := by rw [eG_10, va_up_self]
            have g_19 := (congrFun eG_10 (10 + si i)).trans ((va_up_ne _ _ (by omega)).trans ((congrFun hG (10 + (si i))).trans (gE_so hsi)))
            have g_20 := (congrFun eG_10 (20 + si i)).trans ((va_up_ne _ _ (by omega)).trans ((congrFun hG (20 + (si i))).trans (gE_li hsi)))
            refine lv_aload hx hb d_E_use_69 (lv_at hl 1 rfl) ?_
            refine m_roi (m_runV (As := []) (rest := []) ⟨hx, hb, hml, hown, hts⟩ (c_To_isBlunt l D dA ad G_10 H.size (100 + i) (10 + si i) (200 + i) (I 6 i) (I 5 i) (if 1000000000000000 < (J 1 i) + x_7 then 1000000000000000 else (J 1 i) + x_7) (J 2 i + 1) (J 3 i) (I 7 i) (I 8 i) (20 + si i) (nI (si i)) (I 2 (si i)) (J 0 (si i)) (I 3 (si i)) (I 4 (si i)) (g_18) (g_19)) (cwV 0 hts (gV k_338 k_335 k_336 k_337 k_11) rfl rfl rfl (by decide +kernel) ⟨Nat.le_of_ble_eq_true rfl, Nat.le_of_ble_eq_true rfl⟩) hm hA hC (100 + i) rfl g_18 rfl rfl rfl hl.1 rfl (Nat.le_of_ble_eq_true rfl) d_E_use_71 ⟨Nat.le_of_ble_eq_true rfl, Nat.le_of_ble_eq_true rfl⟩) hm hA (fun r_21 H locs w_22 hm => ?_)
            refine lv_if_ne (tgt := 81) hx hb d_E_use_74 (by decide) (fun c_74 => ?_) (fun c_74 => ?_)
            · refine lv_iconst (v := 0) hx hb d_E_use_81 (by decide) ?_
              refine W.widen (k := 3) (n := 18) (by omega) (by omega) ?_
              refine vx_ret ?_
              exact m_zret (v := 0) hx hb hr rfl hm (⟨i, a, b, hi, epi, ha4, ea, hb4, eb, fun h => h.elim c_16 (fun h => Int32.not_lt.mpr c_22 h), c_40, by
                have hb9 := w_22
                rw [ex_7, ex_6, ex_5] at hb9
                replace hb9 : (_ : Int32) = if J 0 (si i) < eWear (J 1 i) (p1.toInt64 * (I 1 (4 * a + b)).toInt64) then 1 else 0 := hb9
                exact bv0 (fun h => c_74 (by rw [hb9, if_neg h])), by
                rw [eG_10, hG, gE_utool hi ht, up2_id, up2_id, up2_id, ex_7, ex_6, ex_5, up2_i3 J _ _ (show 3 ≠ 1 by decide) (show 3 ≠ 2 by decide)]
                rfl⟩) d_E_use_82 hlocks
            · refine lv_iconst (v := 1) hx hb d_E_use_77 (by decide) ?_
              refine lv_goto (tgt := 82) hx hb d_E_use_78 (by decide) ?_
              refine W.widen (k := 3) (n := 18) (by omega) (by omega) ?_
              refine vx_ret ?_
              exact m_zret (v := 1) hx hb hr rfl hm (⟨i, a, b, hi, epi, ha4, ea, hb4, eb, fun h => h.elim c_16 (fun h => Int32.not_lt.mpr c_22 h), c_40, by
                have hb9 := w_22
                rw [ex_7, ex_6, ex_5] at hb9
                replace hb9 : (_ : Int32) = if J 0 (si i) < eWear (J 1 i) (p1.toInt64 * (I 1 (4 * a + b)).toInt64) then 1 else 0 := hb9
                exact bv1 (fun h => by rw [if_pos h] at hb9; rw [hb9] at c_74; exact absurd c_74 (by decide)), by
                rw [eG_10, hG, gE_utool hi ht, up2_id, up2_id, up2_id, ex_7, ex_6, ex_5, up2_i3 J _ _ (show 3 ≠ 1 by decide) (show 3 ≠ 2 by decide)]
                rfl⟩) d_E_use_82 hlocks
          · exact m_throwS (cls := "java/lang/IllegalStateException") (text := "the tool is barred") (names := ["java/lang/RuntimeException", "java/lang/Exception"]) (tx := mTx) hx hb hlt hown (by decide +kernel) (by decide +kernel) (hT _ k_218) (hT _ k_10) (by decide +kernel) hC (at_IllegalStateException hT hC.2.2.2) (good_IllegalStateException) hm (hl.1.trans hml.symm) d_E_use_43 d_E_use_46 d_E_use_47 d_E_use_49 d_E_use_52 hout (Nat.le_of_ble_eq_true rfl) (Nat.le_of_ble_eq_true rfl) (Nat.le_of_ble_eq_true rfl) (Nat.le_of_ble_eq_true rfl) hlocks (⟨Or.inr (Or.inr ⟨rfl, ⟨i, hi, epi, c_40⟩, ⟨a, ha4, ea⟩, ⟨b, hb4, eb⟩, fun h => h.elim c_16 (fun h => Int32.not_lt.mpr c_22 h)⟩), rfl⟩) (Nat.le_of_ble_eq_true rfl) (Nat.le_of_ble_eq_true rfl)
        · exact m_throwS (cls := "java/lang/IllegalArgumentException") (text := "metres are not 0 .. 1000000") (names := ["java/lang/RuntimeException", "java/lang/Exception"]) (tx := mTx) hx hb hlt hown (by decide +kernel) (by decide +kernel) (hT _ k_202) (hT _ k_9) (by decide +kernel) hC (at_IllegalArgumentException hT hC.2.2.2) (good_IllegalArgumentException) hm (hl.1.trans hml.symm) d_E_use_25 d_E_use_28 d_E_use_29 d_E_use_31 d_E_use_34 hout (Nat.le_of_ble_eq_true rfl) (Nat.le_of_ble_eq_true rfl) (Nat.le_of_ble_eq_true rfl) (Nat.le_of_ble_eq_true rfl) hlocks (⟨Or.inr (Or.inl ⟨rfl, ⟨⟨i, hi, epi⟩, ⟨a, ha4, ea⟩, ⟨b, hb4, eb⟩⟩, Or.inr (Int32.not_le.mp c_22)⟩), rfl⟩) (Nat.le_of_ble_eq_true rfl) (Nat.le_of_ble_eq_true rfl)

set_option maxHeartbeats 4000000 in
set_option maxRecDepth 100000 in
theorem c_E_life (l : Launch) (hlt : l.stackTraces = false) (D : va_G) (dA : Nat → ClassId) (ad : Nat → Nat) (G : mG) (sz : Nat) (I : Nat → Nat → Int32) (J : Nat → Nat → Int64) (F : Nat → Nat → Nat → Int32) (si : Nat → Nat) (tc oc : Nat) (G0 : mG) (hG : G = gE dA ad I J F si tc oc G0) (ht : tc ≤ 12) (hL : ∀ i, i < 4 → ∃ c, c ≤ 40 ∧ I 2 i = nI c) (p0 p1 : Int32) : vx_Met l y_E_life (.code y_E_life b_E_life 4 (some .int) :: mBig) ({ frames := 7, cells := 2, slots := 12, locals := 104 }) (mPc [.ref (ad 0), .int p0, .int p1] D mCl (mTys dA) mTx ad G sz) (mQi (fun (rv : Int32) (u : mU) => (∃ i kc, i < 4 ∧ p0 = nI i ∧ ¬ (p1 < 1 ∨ 1000 < p1) ∧ I 2 i = nI kc ∧ kc < 40 ∧ rv = nI (kc + 1) ∧ u = (ad, gE dA ad (up2 I 2 i (nI (kc + 1))) J (up2 F 0 i (upd (F 0 i) kc p1)) si tc oc G0))) D mCl ad G sz) (mXC (fun (E : String) (u : mU) => ((E = "java/lang/IndexOutOfBoundsException" ∧ ¬ ∃ i, i < 4 ∧ p0 = nI i) ∨ (E = "java/lang/IllegalArgumentException" ∧ (∃ i, i < 4 ∧ p0 = nI i) ∧ (p1 < 1 ∨ 1000 < p1)) ∨ (E = "java/lang/IllegalStateException" ∧ (∃ i, i < 4 ∧ p0 = nI i ∧ I 2 i = nI 40) ∧ ¬ (p1 < 1 ∨ 1000 < p1))) ∧ u = (ad, G)) D mCl ad G sz) 2 12 (mA ad G sz) := by
  refine vx_ofW (cc := b_E_life) (maxL := 4) (ret := (some .int)) (by decide) rfl ?_
  intro p e s m args below meth c s₁ B hml hout hv
  obtain ⟨rfl, hsz, hw0, hC⟩ := hv
  have hx := B.exec
  have hb := B.bytes
  have hr := B.returns
  have hts := atoms_spec (ws := .code y_E_life b_E_life 4 (some .int) :: mBig) B.pre
  have hT : ∀ w ∈ mBig, w.before _ s = true := fun w h => hts w (List.mem_cons_of_mem _ h)
  have hown : s.vm.findClass "EdgeWear" = some m.cls := findClass_of_methodNamed B.named
  have hlocks := B.notSynchronized
  subst hsz
  have hm := mS.start hw0
  have hA : ∀ q : Nat, s.heap.size ≤ q → mA ad G s.heap.size q := fun q h => Or.inr h
  have hl := lv_entry ([.ref (ad 0), .int p0, .int p1]) (n := 4) (Nat.le_of_ble_eq_true rfl)
  rw [lg_entry_eq]
  generalize (lg_sl ([.ref (ad 0), .int p0, .int p1]) ++ List.replicate (4 - (lg_sl ([.ref (ad 0), .int p0, .int p1])).length) Slot.unset).toArray = ls at hl ⊢
  have hl : lv_has ls 4 [(0, .ref (ad 0)), (1, .int p0), (2, .int p1)] := hl
  refine lv_aload_n hx hb d_E_life_0 rfl (lv_at hl 0 rfl) ?_
  refine lv_iload_n hx hb d_E_life_1 rfl (lv_at hl 1 rfl) ?_
  refine x_roq (x_runV (As := [.int p0]) (rest := []) ⟨hx, hb, hml, hown, hts⟩ (c_E_sortAt l hlt D dA ad G s.heap.size I J F si tc oc G0 hG ht p0) (cwV 1 hts (gV k_132 k_129 k_131 ks_0 k_1) rfl rfl rfl (by decide +kernel) ⟨Nat.le_of_ble_eq_true rfl, Nat.le_of_ble_eq_true rfl⟩) hm hA hC 0 rfl ((congrFun hG 0).trans gE_c0) rfl rfl rfl hl.1 rfl (Nat.le_of_ble_eq_true rfl) d_E_life_2 ⟨Nat.le_of_ble_eq_true rfl, Nat.le_of_ble_eq_true rfl⟩) hm hA (fun E ce q9 H locs w_2 hm h7 h8 h9 => ?_) (fun r_1 H locs w_2 hm => ?_)
  · exact m_out hout hlocks hm h7 h8 h9 (by
      obtain ⟨rfl, hq⟩ := w_2
      exact ⟨Or.inl ⟨rfl, hq⟩, rfl⟩) (by decide) (by decide)
  · obtain ⟨i, hi, epi, er⟩ := w_2
    subst er
    rw [show va_rf (some (ad (10 + i))) = .ref (ad (10 + i)) from rfl]
    refine lv_astore_n (lv' := [(3, .ref (ad (10 + i))), (0, .ref (ad 0)), (1, .int p0), (2, .int p1)]) hx hb d_E_life_5 rfl hl (by decide) rfl (fun ls hl => ?_)
    obtain ⟨kc, hkc, ekc⟩ := hL i hi
    refine lv_iload_n hx hb d_E_life_6 rfl (lv_at hl 3 rfl) ?_
    refine lv_iconst (v := 1) hx hb d_E_life_7 (by decide) ?_
    refine lv_icmp_lt (tgt := 18) hx hb d_E_life_8 (by decide) (fun c_8 => ?_) (fun c_8 => ?_)
    · exact m_throwS (cls := "java/lang/IllegalArgumentException") (text := "uses are not 1 .. 1000") (names := ["java/lang/RuntimeException", "java/lang/Exception"]) (tx := mTx) hx hb hlt hown (by decide +kernel) (by decide +kernel) (hT _ k_202) (hT _ k_9) (by decide +kernel) hC (at_IllegalArgumentException hT hC.2.2.2) (good_IllegalArgumentException) hm (hl.1.trans hml.symm) d_E_life_18 d_E_life_21 d_E_life_22 d_E_life_24 d_E_life_27 hout (Nat.le_of_ble_eq_true rfl) (Nat.le_of_ble_eq_true rfl) (Nat.le_of_ble_eq_true rfl) (Nat.le_of_ble_eq_true rfl) hlocks (⟨Or.inr (Or.inl ⟨rfl, ⟨i, hi, epi⟩, Or.inl c_8⟩), rfl⟩) (Nat.le_of_ble_eq_true rfl) (Nat.le_of_ble_eq_true rfl)
    · refine lv_iload_n hx hb d_E_life_11 rfl (lv_at hl 3 rfl) ?_
      refine lv_sipush (v := 1000) hx hb d_E_life_12 (by decide) ?_
      refine lv_icmp_le (tgt := 28) hx hb d_E_life_15 (by decide) (fun c_15 => ?_) (fun c_15 => ?_)
      · refine lv_aload_n hx hb d_E_life_28 rfl (lv_at hl 0 rfl) ?_
        refine m_get (v := .int (I 2 i)) (C := R_So) (T := T_So) (N := 6) hx hb hT in_So hown hC.1 hm (10 + i) rfl ((congrFun hG (10 + i)).trans (gE_so hi)) rfl 2 (by decide) (hT _ k_38) (fun _ h9 => h9) rfl d_E_life_29 ?_
        refine lv_aload_n hx hb d_E_life_32 rfl (lv_at hl 0 rfl) ?_
        refine m_get (v := .ref (ad (20 + i))) (C := R_So) (T := T_So) (N := 6) hx hb hT in_So hown hC.1 hm (10 + i) rfl ((congrFun hG (10 + i)).trans (gE_so hi)) rfl 1 (by decide) (hT _ k_36) (fun _ h9 => h9) rfl d_E_life_33 ?_
        refine m_alen (v := 40) hx hb hC.1 hm (20 + i) rfl 0 ((congrFun hG (20 + i)).trans (gE_li hi)) rfl rfl d_E_life_36 ?_
        refine lv_icmp_lt (tgt := 50) hx hb d_E_life_37 (by decide) (fun c_37 => ?_) (fun c_37 => ?_)
        · have hk40 : kc < 40 := by
            rw [ekc] at c_37
            exact (nI_ltI (b := 40) (by omega) (by decide)).mp c_37
          refine lv_aload_n hx hb d_E_life_50 rfl (lv_at hl 0 rfl) ?_
          refine m_get (v := .ref (ad (20 + i))) (C := R_So) (T := T_So) (N := 6) hx hb hT in_So hown hC.1 hm (10 + i) rfl ((congrFun hG (10 + i)).trans (gE_so hi)) rfl 1 (by decide) (hT _ k_36) (fun _ h9 => h9) rfl d_E_life_51 ?_
          refine lv_aload_n hx hb d_E_life_54 rfl (lv_at hl 0 rfl) ?_
          refine m_get (v := .int (I 2 i)) (C := R_So) (T := T_So) (N := 6) hx hb hT in_So hown hC.1 hm (10 + i) rfl ((congrFun hG (10 + i)).trans (gE_so hi)) rfl 2 (by decide) (hT _ k_38) (fun _ h9 => h9) rfl d_E_life_55 ?_
          refine lv_iload_n hx hb d_E_life_58 rfl (lv_at hl 3 rfl) ?_
          refine m_iast hx hb hC.1 hm (20 + i) rfl 0 ((congrFun hG (20 + i)).trans (gE_li hi)) rfl (by rw [ekc]; exact vp_in_nI (by omega) (by decide)) d_E_life_59 (fun H locs hm => ?_)
          rw [show (I 2 i).toNatClampNeg = kc by rw [ekc, nI_clamp (by omega)]] at hm
          obtain ⟨G_3, eG_3⟩ : ∃ z : mG, z = va_up G (20 + i) (some (.inl ((dA 0), 40, .inl (upd (F 0 i) kc p1)))) := ⟨_, rfl⟩
          have hm : mS D mCl (mA ad G s.heap.size) s.heap ad G_3 H locs := by rw [eG_3]; exact hm
          have g_4 := (congrFun eG_3 0).trans ((va_up_ne _ _ (by omega)).trans ((congrFun hG 0).trans gE_c0))
          have g_5 := (congrFun eG_3 1).trans ((va_up_ne _ _ (by omega)).trans ((congrFun hG 1).trans gE_c1))
          have g_6 := (congrFun eG_3 2).trans ((va_up_ne _ _ (by omega)).trans ((congrFun hG 2).trans gE_c2))
          have g_7 := (congrFun eG_3 3).trans ((va_up_ne _ _ (by omega)).trans ((congrFun hG 3).trans gE_c3))
          have g_8 := (congrFun eG_3 4).trans ((va_up_ne _ _ (by omega)).trans ((congrFun hG 4).trans gE_c4))
          have g_9 := (congrFun eG_3 5).trans ((va_up_ne _ _ (by omega)).trans ((congrFun hG 5).trans gE_c5))
          have g_10 := (congrFun eG_3 (10 + i)).trans ((va_up_ne _ _ (by omega)).trans ((congrFun hG (10 + i)).trans (gE_so hi)))
          have g_11 : G_3 (20 + i) = some (.inl ((dA 0), 40, .inl (upd (F 0 i) kc p1))) := by rw [eG_3, va_up_self]
          refine lv_aload_n hx hb d_E_life_60 rfl (lv_at hl 0 rfl) ?_
          refine lv_dup hx hb d_E_life_61 rfl ?_
          refine m_get (v := .int (I 2 i)) (C := R_So) (T := T_So) (N := 6) hx hb hT in_So hown hC.1 hm (10 + i) rfl g_10 rfl 2 (by decide) (hT _ k_38) (fun _ h9 => h9) rfl d_E_life_62 ?_
          refine lv_iconst (v := 1) hx hb d_E_life_65 (by decide) ?_
          refine lv_iadd hx hb d_E_life_66 ?_
          refine lv_topi (fun x_12 ex_12 => ?_)
          refine m_put (v := .int x_12) (ty := .int) (C := R_So) (T := T_So) (N := 6) hx hb hT in_So t_So tok_So nm_So hown hC.1 hm (10 + i) rfl g_10 rfl 2 (by decide) (hT _ k_38) (fun _ h9 => h9) rfl (by decide +kernel) rfl rfl (Nat.le_of_ble_eq_true rfl) d_E_life_67 (fun H locs hm => ?_)
          obtain ⟨G_13, eG_13⟩ : ∃ z : mG, z = va_up G_3 (10 + i) (some (.inr (3, [.int (nI i), .ref (ad (20 + i)), .int x_12, .long (J 0 i), .int (I 3 i), .int (I 4 i)]))) := ⟨_, rfl⟩
          have hm : mS D mCl (mA ad G s.heap.size) s.heap ad G_13 H locs := by rw [eG_13]; exact hm
          have g_14 := (congrFun eG_13 0).trans ((va_up_ne _ _ (by omega)).trans g_4)
          have g_15 := (congrFun eG_13 1).trans ((va_up_ne _ _ (by omega)).trans g_5)
          have g_16 := (congrFun eG_13 2).trans ((va_up_ne _ _ (by omega)).trans g_6)
          have g_17 := (congrFun eG_13 3).trans ((va_up_ne _ _ (by omega)).trans g_7)
          have g_18 := (congrFun eG_13 4).trans ((va_up_ne _ _ (by omega)).trans g_8)
          have g_19 := (congrFun eG_13 5).trans ((va_up_ne _ _ (by omega)).trans g_9)
          have g_20 : G_13 (10 + i) = some (.inr (3, [.int (nI i), .ref (ad (20 + i)), .int x_12, .long (J 0 i), .int (I 3 i), .int (I 4 i)])) := by rw [eG_13, va_up_self]
          have g_21 := (congrFun eG_13 (20 + i)).trans ((va_up_ne _ _ (by omega)).trans g_11)
          refine lv_aload_n hx hb d_E_life_70 rfl (lv_at hl 0 rfl) ?_
          refine m_get (v := .int x_12) (C := R_So) (T := T_So) (N := 6) hx hb hT in_So hown hC.1 hm (10 + i) rfl g_20 rfl 2 (by decide) (hT _ k_38) (fun _ h9 => h9) rfl d_E_life_71 ?_
          refine W.widen (k := 2) (n := 12) (by omega) (by omega) ?_
          refine vx_ret ?_
          exact m_iret (v := x_12) hx hb hr hm (⟨i, kc, hi, epi, fun h => h.elim c_8 (fun h => Int32.not_lt.mpr c_15 h), ekc, hk40, by rw [ex_12, ekc, nI_1], by
            rw [eG_13, eG_3, hG, gE_ulife hi, gE_usort hi, up2_i2 I _ (show 3 ≠ 2 by decide), up2_i2 I _ (show 4 ≠ 2 by decide), up2_id, ex_12, ekc, nI_1]⟩) d_E_life_74 hlocks
        · exact m_throwS (cls := "java/lang/IllegalStateException") (text := "there are 40 lives") (names := ["java/lang/RuntimeException", "java/lang/Exception"]) (tx := mTx) hx hb hlt hown (by decide +kernel) (by decide +kernel) (hT _ k_218) (hT _ k_10) (by decide +kernel) hC (at_IllegalStateException hT hC.2.2.2) (good_IllegalStateException) hm (hl.1.trans hml.symm) d_E_life_40 d_E_life_43 d_E_life_44 d_E_life_46 d_E_life_49 hout (Nat.le_of_ble_eq_true rfl) (Nat.le_of_ble_eq_true rfl) (Nat.le_of_ble_eq_true rfl) (Nat.le_of_ble_eq_true rfl) hlocks (⟨Or.inr (Or.inr ⟨rfl, ⟨i, hi, epi, by
            rw [ekc] at c_37
            have h9 := (nI_leI (a := 40) (by decide) (by omega)).mp (Int32.not_lt.mp c_37)
            rw [ekc, show kc = 40 by omega]⟩, fun h => h.elim c_8 (fun h => Int32.not_lt.mpr c_15 h)⟩), rfl⟩) (Nat.le_of_ble_eq_true rfl) (Nat.le_of_ble_eq_true rfl)
      · exact m_throwS (cls := "java/lang/IllegalArgumentException") (text := "uses are not 1 .. 1000") (names := ["java/lang/RuntimeException", "java/lang/Exception"]) (tx := mTx) hx hb hlt hown (by decide +kernel) (by decide +kernel) (hT _ k_202) (hT _ k_9) (by decide +kernel) hC (at_IllegalArgumentException hT hC.2.2.2) (good_IllegalArgumentException) hm (hl.1.trans hml.symm) d_E_life_18 d_E_life_21 d_E_life_22 d_E_life_24 d_E_life_27 hout (Nat.le_of_ble_eq_true rfl) (Nat.le_of_ble_eq_true rfl) (Nat.le_of_ble_eq_true rfl) (Nat.le_of_ble_eq_true rfl) hlocks (⟨Or.inr (Or.inl ⟨rfl, ⟨i, hi, epi⟩, Or.inr (Int32.not_le.mp c_15)⟩), rfl⟩) (Nat.le_of_ble_eq_true rfl) (Nat.le_of_ble_eq_true rfl)

set_option maxHeartbeats 4000000 in
set_option maxRecDepth 100000 in
theorem c_E_cost (l : Launch) (hlt : l.stackTraces = false) (D : va_G) (dA : Nat → ClassId) (ad : Nat → Nat) (G : mG) (sz : Nat) (I : Nat → Nat → Int32) (J : Nat → Nat → Int64) (F : Nat → Nat → Nat → Int32) (si : Nat → Nat) (tc oc : Nat) (G0 : mG) (hG : G = gE dA ad I J F si tc oc G0) (ht : tc ≤ 12) (p0 p1 p2 : Int32) : vx_Met l y_E_cost (.code y_E_cost b_E_cost 5 none :: mBig) ({ frames := 7, cells := 2, slots := 12, locals := 104 }) (mPc [.ref (ad 0), .int p0, .int p1, .int p2] D mCl (mTys dA) mTx ad G sz) (mQv (fun (u : mU) => (∃ i, i < 4 ∧ p0 = nI i ∧ ¬ (p1 < 0 ∨ 1000000 < p1 ∨ p2 < 0 ∨ 1000000 < p2) ∧ u = (ad, gE dA ad (up2 (up2 I 3 i p1) 4 i p2) J F si tc oc G0))) D mCl ad G sz) (mXC (fun (E : String) (u : mU) => ((E = "java/lang/IndexOutOfBoundsException" ∧ ¬ ∃ i, i < 4 ∧ p0 = nI i) ∨ (E = "java/lang/IllegalArgumentException" ∧ (∃ i, i < 4 ∧ p0 = nI i) ∧ (p1 < 0 ∨ 1000000 < p1 ∨ p2 < 0 ∨ 1000000 < p2))) ∧ u = (ad, G)) D mCl ad G sz) 2 12 (mA ad G sz) := by
  refine vx_ofW (cc := b_E_cost) (maxL := 5) (ret := none) (by decide) rfl ?_
  intro p e s m args below meth c s₁ B hml hout hv
  obtain ⟨rfl, hsz, hw0, hC⟩ := hv
  have hx := B.exec
  have hb := B.bytes
  have hr := B.returns
  have hts := atoms_spec (ws := .code y_E_cost b_E_cost 5 none :: mBig) B.pre
  have hT : ∀ w ∈ mBig, w.before _ s = true := fun w h => hts w (List.mem_cons_of_mem _ h)
  have hown : s.vm.findClass "EdgeWear" = some m.cls := findClass_of_methodNamed B.named
  have hlocks := B.notSynchronized
  subst hsz
  have hm := mS.start hw0
  have hA : ∀ q : Nat, s.heap.size ≤ q → mA ad G s.heap.size q := fun q h => Or.inr h
  have hl := lv_entry ([.ref (ad 0), .int p0, .int p1, .int p2]) (n := 5) (Nat.le_of_ble_eq_true rfl)
  rw [lg_entry_eq]
  generalize (lg_sl ([.ref (ad 0), .int p0, .int p1, .int p2]) ++ List.replicate (5 - (lg_sl ([.ref (ad 0), .int p0, .int p1, .int p2])).length) Slot.unset).toArray = ls at hl ⊢
  have hl : lv_has ls 5 [(0, .ref (ad 0)), (1, .int p0), (2, .int p1), (3, .int p2)] := hl
  refine lv_aload_n hx hb d_E_cost_0 rfl (lv_at hl 0 rfl) ?_
  refine lv_iload_n hx hb d_E_cost_1 rfl (lv_at hl 1 rfl) ?_
  refine x_roq (x_runV (As := [.int p0]) (rest := []) ⟨hx, hb, hml, hown, hts⟩ (c_E_sortAt l hlt D dA ad G s.heap.size I J F si tc oc G0 hG ht p0) (cwV 1 hts (gV k_132 k_129 k_131 ks_0 k_1) rfl rfl rfl (by decide +kernel) ⟨Nat.le_of_ble_eq_true rfl, Nat.le_of_ble_eq_true rfl⟩) hm hA hC 0 rfl ((congrFun hG 0).trans gE_c0) rfl rfl rfl hl.1 rfl (Nat.le_of_ble_eq_true rfl) d_E_cost_2 ⟨Nat.le_of_ble_eq_true rfl, Nat.le_of_ble_eq_true rfl⟩) hm hA (fun E ce q9 H locs w_2 hm h7 h8 h9 => ?_) (fun r_1 H locs w_2 hm => ?_)
  · exact m_out hout hlocks hm h7 h8 h9 (by
      obtain ⟨rfl, hq⟩ := w_2
      exact ⟨Or.inl ⟨rfl, hq⟩, rfl⟩) (by decide) (by decide)
  · obtain ⟨i, hi, epi, er⟩ := w_2
    subst er
    rw [show va_rf (some (ad (10 + i))) = .ref (ad (10 + i)) from rfl]
    refine lv_astore (lv' := [(4, .ref (ad (10 + i))), (0, .ref (ad 0)), (1, .int p0), (2, .int p1), (3, .int p2)]) hx hb d_E_cost_5 hl (by decide) rfl (fun ls hl => ?_)
    refine lv_iload_n hx hb d_E_cost_7 rfl (lv_at hl 3 rfl) ?_
    refine lv_if_lt (tgt := 27) hx hb d_E_cost_8 (by decide) (fun c_8 => ?_) (fun c_8 => ?_)
    · exact m_throwS (cls := "java/lang/IllegalArgumentException") (text := "a cost is not 0 .. 1000000") (names := ["java/lang/RuntimeException", "java/lang/Exception"]) (tx := mTx) hx hb hlt hown (by decide +kernel) (by decide +kernel) (hT _ k_202) (hT _ k_9) (by decide +kernel) hC (at_IllegalArgumentException hT hC.2.2.2) (good_IllegalArgumentException) hm (hl.1.trans hml.symm) d_E_cost_27 d_E_cost_30 d_E_cost_31 d_E_cost_33 d_E_cost_36 hout (Nat.le_of_ble_eq_true rfl) (Nat.le_of_ble_eq_true rfl) (Nat.le_of_ble_eq_true rfl) (Nat.le_of_ble_eq_true rfl) hlocks (⟨Or.inr ⟨rfl, ⟨i, hi, epi⟩, Or.inl c_8⟩, rfl⟩) (Nat.le_of_ble_eq_true rfl) (Nat.le_of_ble_eq_true rfl)
    · refine lv_iload_n hx hb d_E_cost_11 rfl (lv_at hl 3 rfl) ?_
      refine lv_ldc (v := 1000000) hx hb hown (hT _ k_201) d_E_cost_12 ?_
      refine lv_icmp_gt (tgt := 27) hx hb d_E_cost_14 (by decide) (fun c_14 => ?_) (fun c_14 => ?_)
      · exact m_throwS (cls := "java/lang/IllegalArgumentException") (text := "a cost is not 0 .. 1000000") (names := ["java/lang/RuntimeException", "java/lang/Exception"]) (tx := mTx) hx hb hlt hown (by decide +kernel) (by decide +kernel) (hT _ k_202) (hT _ k_9) (by decide +kernel) hC (at_IllegalArgumentException hT hC.2.2.2) (good_IllegalArgumentException) hm (hl.1.trans hml.symm) d_E_cost_27 d_E_cost_30 d_E_cost_31 d_E_cost_33 d_E_cost_36 hout (Nat.le_of_ble_eq_true rfl) (Nat.le_of_ble_eq_true rfl) (Nat.le_of_ble_eq_true rfl) (Nat.le_of_ble_eq_true rfl) hlocks (⟨Or.inr ⟨rfl, ⟨i, hi, epi⟩, Or.inr (Or.inl c_14)⟩, rfl⟩) (Nat.le_of_ble_eq_true rfl) (Nat.le_of_ble_eq_true rfl)
      · refine lv_iload_n hx hb d_E_cost_17 rfl (lv_at hl 4 rfl) ?_
        refine lv_if_lt (tgt := 27) hx hb d_E_cost_18 (by decide) (fun c_18 => ?_) (fun c_18 => ?_)
        · exact m_throwS (cls := "java/lang/IllegalArgumentException") (text := "a cost is not 0 .. 1000000") (names := ["java/lang/RuntimeException", "java/lang/Exception"]) (tx := mTx) hx hb hlt hown (by decide +kernel) (by decide +kernel) (hT _ k_202) (hT _ k_9) (by decide +kernel) hC (at_IllegalArgumentException hT hC.2.2.2) (good_IllegalArgumentException) hm (hl.1.trans hml.symm) d_E_cost_27 d_E_cost_30 d_E_cost_31 d_E_cost_33 d_E_cost_36 hout (Nat.le_of_ble_eq_true rfl) (Nat.le_of_ble_eq_true rfl) (Nat.le_of_ble_eq_true rfl) (Nat.le_of_ble_eq_true rfl) hlocks (⟨Or.inr ⟨rfl, ⟨i, hi, epi⟩, Or.inr (Or.inr (Or.inl c_18))⟩, rfl⟩) (Nat.le_of_ble_eq_true rfl) (Nat.le_of_ble_eq_true rfl)
        · refine lv_iload_n hx hb d_E_cost_21 rfl (lv_at hl 4 rfl) ?_
          refine lv_ldc (v := 1000000) hx hb hown (hT _ k_201) d_E_cost_22 ?_
          refine lv_icmp_le (tgt := 37) hx hb d_E_cost_24 (by decide) (fun c_24 => ?_) (fun c_24 => ?_)
          · refine lv_aload hx hb d_E_cost_37 (lv_at hl 0 rfl) ?_
            refine lv_iload_n hx hb d_E_cost_39 rfl (lv_at hl 3 rfl) ?_
            refine m_put (v := .int p1) (ty := .int) (C := R_So) (T := T_So) (N := 6) hx hb hT in_So t_So tok_So nm_So hown hC.1 hm (10 + i) rfl ((congrFun hG (10 + i)).trans (gE_so hi)) rfl 4 (by decide) (hT _ k_43) (fun _ h9 => h9) rfl (by decide +kernel) rfl rfl (Nat.le_of_ble_eq_true rfl) d_E_cost_40 (fun H locs hm => ?_)
            obtain ⟨G_3, eG_3⟩ : ∃ z : mG, z = va_up G (10 + i) (some (.inr (3, [.int (nI i), .ref (ad (20 + i)), .int (I 2 i), .long (J 0 i), .int p1, .int (I 4 i)]))) := ⟨_, rfl⟩
            have hm : mS D mCl (mA ad G s.heap.size) s.heap ad G_3 H locs := by rw [eG_3]; exact hm
            have g_4 := (congrFun eG_3 0).trans ((va_up_ne _ _ (by omega)).trans ((congrFun hG 0).trans gE_c0))
            have g_5 := (congrFun eG_3 1).trans ((va_up_ne _ _ (by omega)).trans ((congrFun hG 1).trans gE_c1))
            have g_6 := (congrFun eG_3 2).trans ((va_up_ne _ _ (by omega)).trans ((congrFun hG 2).trans gE_c2))
            have g_7 := (congrFun eG_3 3).trans ((va_up_ne _ _ (by omega)).trans ((congrFun hG 3).trans gE_c3))
            have g_8 := (congrFun eG_3 4).trans ((va_up_ne _ _ (by omega)).trans ((congrFun hG 4).trans gE_c4))
            have g_9 := (congrFun eG_3 5).trans ((va_up_ne _ _ (by omega)).trans ((congrFun hG 5).trans gE_c5))
            have g_10 : G_3 (10 + i) = some (.inr (3, [.int (nI i), .ref (ad (20 + i)), .int (I 2 i), .long (J 0 i), .int p1, .int (I 4 i)])) := by rw [eG_3, va_up_self]
            have g_11 := (congrFun eG_3 (20 + i)).trans ((va_up_ne _ _ (by omega)).trans ((congrFun hG (20 + i)).trans (gE_li hi)))
            refine lv_aload hx hb d_E_cost_43 (lv_at hl 0 rfl) ?_
            refine lv_iload_n hx hb d_E_cost_45 rfl (lv_at hl 4 rfl) ?_
            refine m_put (v := .int p2) (ty := .int) (C := R_So) (T := T_So) (N := 6) hx hb hT in_So t_So tok_So nm_So hown hC.1 hm (10 + i) rfl g_10 rfl 5 (by decide) (hT _ k_45) (fun _ h9 => h9) rfl (by decide +kernel) rfl rfl (Nat.le_of_ble_eq_true rfl) d_E_cost_46 (fun H locs hm => ?_)
            obtain ⟨G_12, eG_12⟩ : ∃ z : mG, z = va_up G_3 (10 + i) (some (.inr (3, [.int (nI i), .ref (ad (20 + i)), .int (I 2 i), .long (J 0 i), .int p1, .int p2]))) := ⟨_, rfl⟩
            have hm : mS D mCl (mA ad G s.heap.size) s.heap ad G_12 H locs := by rw [eG_12]; exact hm
            have g_13 := (congrFun eG_12 0).trans ((va_up_ne _ _ (by omega)).trans g_4)
            have g_14 := (congrFun eG_12 1).trans ((va_up_ne _ _ (by omega)).trans g_5)
            have g_15 := (congrFun eG_12 2).trans ((va_up_ne _ _ (by omega)).trans g_6)
            have g_16 := (congrFun eG_12 3).trans ((va_up_ne _ _ (by omega)).trans g_7)
            have g_17 := (congrFun eG_12 4).trans ((va_up_ne _ _ (by omega)).trans g_8)
            have g_18 := (congrFun eG_12 5).trans ((va_up_ne _ _ (by omega)).trans g_9)
            have g_19 : G_12 (10 + i) = some (.inr (3, [.int (nI i), .ref (ad (20 + i)), .int (I 2 i), .long (J 0 i), .int p1, .int p2])) := by rw [eG_12, va_up_self]
            have g_20 := (congrFun eG_12 (20 + i)).trans ((va_up_ne _ _ (by omega)).trans g_11)
            refine W.widen (k := 2) (n := 12) (by omega) (by omega) ?_
            refine vx_ret ?_
            exact m_vret hx hb hr hm (⟨i, hi, epi, fun h => h.elim c_8 (fun h => h.elim c_14 (fun h => h.elim c_18 (fun h => Int32.not_lt.mpr c_24 h))), by rw [eG_12, eG_3, bx_uu, hG, gE_usort hi, up2_id, up2_id]⟩) d_E_cost_49 hlocks
          · exact m_throwS (cls := "java/lang/IllegalArgumentException") (text := "a cost is not 0 .. 1000000") (names := ["java/lang/RuntimeException", "java/lang/Exception"]) (tx := mTx) hx hb hlt hown (by decide +kernel) (by decide +kernel) (hT _ k_202) (hT _ k_9) (by decide +kernel) hC (at_IllegalArgumentException hT hC.2.2.2) (good_IllegalArgumentException) hm (hl.1.trans hml.symm) d_E_cost_27 d_E_cost_30 d_E_cost_31 d_E_cost_33 d_E_cost_36 hout (Nat.le_of_ble_eq_true rfl) (Nat.le_of_ble_eq_true rfl) (Nat.le_of_ble_eq_true rfl) (Nat.le_of_ble_eq_true rfl) hlocks (⟨Or.inr ⟨rfl, ⟨i, hi, epi⟩, Or.inr (Or.inr (Or.inr (Int32.not_le.mp c_24)))⟩, rfl⟩) (Nat.le_of_ble_eq_true rfl) (Nat.le_of_ble_eq_true rfl)

set_option maxHeartbeats 4000000 in
set_option maxRecDepth 100000 in
theorem c_E_rules (l : Launch) (hlt : l.stackTraces = false) (D : va_G) (dA : Nat → ClassId) (ad : Nat → Nat) (G : mG) (sz : Nat) (I : Nat → Nat → Int32) (J : Nat → Nat → Int64) (F : Nat → Nat → Nat → Int32) (si : Nat → Nat) (tc oc : Nat) (G0 : mG) (hG : G = gE dA ad I J F si tc oc G0) (ht : tc ≤ 12) (p0 p1 p2 p3 : Int32) : vx_Met l y_E_rules (.code y_E_rules b_E_rules 5 none :: mBig) ({ frames := 6, cells := 1, slots := 6, locals := 82 }) (mPc [.ref (ad 0), .int p0, .int p1, .int p2, .int p3] D mCl (mTys dA) mTx ad G sz) (mQv (fun (u : mU) => (¬ (p0 < 0 ∨ 1000000 < p0 ∨ p2 < 0 ∨ 1000000 < p2 ∨ p3 < 0 ∨ 1000000 < p3 ∨ p1 < 2 ∨ 12 < p1) ∧ u = (ad, gE dA ad (up2 (up2 (up2 (up2 I 0 1 p0) 0 2 p1) 0 3 p2) 0 4 p3) J F si tc oc G0))) D mCl ad G sz) (mXC (fun (E : String) (u : mU) => (E = "java/lang/IllegalArgumentException" ∧ (p0 < 0 ∨ 1000000 < p0 ∨ p2 < 0 ∨ 1000000 < p2 ∨ p3 < 0 ∨ 1000000 < p3 ∨ p1 < 2 ∨ 12 < p1)) ∧ u = (ad, G)) D mCl ad G sz) 1 6 (mA ad G sz) := by
  refine vx_ofW (cc := b_E_rules) (maxL := 5) (ret := none) (by decide) rfl ?_
  intro p e s m args below meth c s₁ B hml hout hv
  obtain ⟨rfl, hsz, hw0, hC⟩ := hv
  have hx := B.exec
  have hb := B.bytes
  have hr := B.returns
  have hts := atoms_spec (ws := .code y_E_rules b_E_rules 5 none :: mBig) B.pre
  have hT : ∀ w ∈ mBig, w.before _ s = true := fun w h => hts w (List.mem_cons_of_mem _ h)
  have hown : s.vm.findClass "EdgeWear" = some m.cls := findClass_of_methodNamed B.named
  have hlocks := B.notSynchronized
  subst hsz
  have hm := mS.start hw0
  have hA : ∀ q : Nat, s.heap.size ≤ q → mA ad G s.heap.size q := fun q h => Or.inr h
  have hl := lv_entry ([.ref (ad 0), .int p0, .int p1, .int p2, .int p3]) (n := 5) (Nat.le_of_ble_eq_true rfl)
  rw [lg_entry_eq]
  generalize (lg_sl ([.ref (ad 0), .int p0, .int p1, .int p2, .int p3]) ++ List.replicate (5 - (lg_sl ([.ref (ad 0), .int p0, .int p1, .int p2, .int p3])).length) Slot.unset).toArray = ls at hl ⊢
  have hl : lv_has ls 5 [(0, .ref (ad 0)), (1, .int p0), (2, .int p1), (3, .int p2), (4, .int p3)] := hl
  refine lv_iload_n hx hb d_E_rules_0 rfl (lv_at hl 1 rfl) ?_
  refine lv_if_lt (tgt := 32) hx hb d_E_rules_1 (by decide) (fun c_1 => ?_) (fun c_1 => ?_)
  · exact m_throwS (cls := "java/lang/IllegalArgumentException") (text := "high, middle or jump is not 0 .. 1000000") (names := ["java/lang/RuntimeException", "java/lang/Exception"]) (tx := mTx) hx hb hlt hown (by decide +kernel) (by decide +kernel) (hT _ k_202) (hT _ k_9) (by decide +kernel) hC (at_IllegalArgumentException hT hC.2.2.2) (good_IllegalArgumentException) hm (hl.1.trans hml.symm) d_E_rules_32 d_E_rules_35 d_E_rules_36 d_E_rules_38 d_E_rules_41 hout (Nat.le_of_ble_eq_true rfl) (Nat.le_of_ble_eq_true rfl) (Nat.le_of_ble_eq_true rfl) (Nat.le_of_ble_eq_true rfl) hlocks (⟨⟨rfl, Or.inl (c_1)⟩, rfl⟩) (Nat.le_of_ble_eq_true rfl) (Nat.le_of_ble_eq_true rfl)
  · refine lv_iload_n hx hb d_E_rules_4 rfl (lv_at hl 1 rfl) ?_
    refine lv_ldc (v := 1000000) hx hb hown (hT _ k_201) d_E_rules_5 ?_
    refine lv_icmp_gt (tgt := 32) hx hb d_E_rules_7 (by decide) (fun c_7 => ?_) (fun c_7 => ?_)
    · exact m_throwS (cls := "java/lang/IllegalArgumentException") (text := "high, middle or jump is not 0 .. 1000000") (names := ["java/lang/RuntimeException", "java/lang/Exception"]) (tx := mTx) hx hb hlt hown (by decide +kernel) (by decide +kernel) (hT _ k_202) (hT _ k_9) (by decide +kernel) hC (at_IllegalArgumentException hT hC.2.2.2) (good_IllegalArgumentException) hm (hl.1.trans hml.symm) d_E_rules_32 d_E_rules_35 d_E_rules_36 d_E_rules_38 d_E_rules_41 hout (Nat.le_of_ble_eq_true rfl) (Nat.le_of_ble_eq_true rfl) (Nat.le_of_ble_eq_true rfl) (Nat.le_of_ble_eq_true rfl) hlocks (⟨⟨rfl, Or.inr (Or.inl (c_7))⟩, rfl⟩) (Nat.le_of_ble_eq_true rfl) (Nat.le_of_ble_eq_true rfl)
    · refine lv_iload_n hx hb d_E_rules_10 rfl (lv_at hl 3 rfl) ?_
      refine lv_if_lt (tgt := 32) hx hb d_E_rules_11 (by decide) (fun c_11 => ?_) (fun c_11 => ?_)
      · exact m_throwS (cls := "java/lang/IllegalArgumentException") (text := "high, middle or jump is not 0 .. 1000000") (names := ["java/lang/RuntimeException", "java/lang/Exception"]) (tx := mTx) hx hb hlt hown (by decide +kernel) (by decide +kernel) (hT _ k_202) (hT _ k_9) (by decide +kernel) hC (at_IllegalArgumentException hT hC.2.2.2) (good_IllegalArgumentException) hm (hl.1.trans hml.symm) d_E_rules_32 d_E_rules_35 d_E_rules_36 d_E_rules_38 d_E_rules_41 hout (Nat.le_of_ble_eq_true rfl) (Nat.le_of_ble_eq_true rfl) (Nat.le_of_ble_eq_true rfl) (Nat.le_of_ble_eq_true rfl) hlocks (⟨⟨rfl, Or.inr (Or.inr (Or.inl (c_11)))⟩, rfl⟩) (Nat.le_of_ble_eq_true rfl) (Nat.le_of_ble_eq_true rfl)
      · refine lv_iload_n hx hb d_E_rules_14 rfl (lv_at hl 3 rfl) ?_
        refine lv_ldc (v := 1000000) hx hb hown (hT _ k_201) d_E_rules_15 ?_
        refine lv_icmp_gt (tgt := 32) hx hb d_E_rules_17 (by decide) (fun c_17 => ?_) (fun c_17 => ?_)
        · exact m_throwS (cls := "java/lang/IllegalArgumentException") (text := "high, middle or jump is not 0 .. 1000000") (names := ["java/lang/RuntimeException", "java/lang/Exception"]) (tx := mTx) hx hb hlt hown (by decide +kernel) (by decide +kernel) (hT _ k_202) (hT _ k_9) (by decide +kernel) hC (at_IllegalArgumentException hT hC.2.2.2) (good_IllegalArgumentException) hm (hl.1.trans hml.symm) d_E_rules_32 d_E_rules_35 d_E_rules_36 d_E_rules_38 d_E_rules_41 hout (Nat.le_of_ble_eq_true rfl) (Nat.le_of_ble_eq_true rfl) (Nat.le_of_ble_eq_true rfl) (Nat.le_of_ble_eq_true rfl) hlocks (⟨⟨rfl, Or.inr (Or.inr (Or.inr (Or.inl (c_17))))⟩, rfl⟩) (Nat.le_of_ble_eq_true rfl) (Nat.le_of_ble_eq_true rfl)
        · refine lv_iload hx hb d_E_rules_20 (lv_at hl 4 rfl) ?_
          refine lv_if_lt (tgt := 32) hx hb d_E_rules_22 (by decide) (fun c_22 => ?_) (fun c_22 => ?_)
          · exact m_throwS (cls := "java/lang/IllegalArgumentException") (text := "high, middle or jump is not 0 .. 1000000") (names := ["java/lang/RuntimeException", "java/lang/Exception"]) (tx := mTx) hx hb hlt hown (by decide +kernel) (by decide +kernel) (hT _ k_202) (hT _ k_9) (by decide +kernel) hC (at_IllegalArgumentException hT hC.2.2.2) (good_IllegalArgumentException) hm (hl.1.trans hml.symm) d_E_rules_32 d_E_rules_35 d_E_rules_36 d_E_rules_38 d_E_rules_41 hout (Nat.le_of_ble_eq_true rfl) (Nat.le_of_ble_eq_true rfl) (Nat.le_of_ble_eq_true rfl) (Nat.le_of_ble_eq_true rfl) hlocks (⟨⟨rfl, Or.inr (Or.inr (Or.inr (Or.inr (Or.inl (c_22)))))⟩, rfl⟩) (Nat.le_of_ble_eq_true rfl) (Nat.le_of_ble_eq_true rfl)
          · refine lv_iload hx hb d_E_rules_25 (lv_at hl 4 rfl) ?_
            refine lv_ldc (v := 1000000) hx hb hown (hT _ k_201) d_E_rules_27 ?_
            refine lv_icmp_le (tgt := 42) hx hb d_E_rules_29 (by decide) (fun c_29 => ?_) (fun c_29 => ?_)
            · refine lv_iload_n hx hb d_E_rules_42 rfl (lv_at hl 2 rfl) ?_
              refine lv_iconst (v := 2) hx hb d_E_rules_43 (by decide) ?_
              refine lv_icmp_lt (tgt := 53) hx hb d_E_rules_44 (by decide) (fun c_44 => ?_) (fun c_44 => ?_)
              · exact m_throwS (cls := "java/lang/IllegalArgumentException") (text := "run is not 2 .. 12") (names := ["java/lang/RuntimeException", "java/lang/Exception"]) (tx := mTx) hx hb hlt hown (by decide +kernel) (by decide +kernel) (hT _ k_202) (hT _ k_9) (by decide +kernel) hC (at_IllegalArgumentException hT hC.2.2.2) (good_IllegalArgumentException) hm (hl.1.trans hml.symm) d_E_rules_53 d_E_rules_56 d_E_rules_57 d_E_rules_59 d_E_rules_62 hout (Nat.le_of_ble_eq_true rfl) (Nat.le_of_ble_eq_true rfl) (Nat.le_of_ble_eq_true rfl) (Nat.le_of_ble_eq_true rfl) hlocks (⟨⟨rfl, Or.inr (Or.inr (Or.inr (Or.inr (Or.inr (Or.inr (Or.inl (c_44)))))))⟩, rfl⟩) (Nat.le_of_ble_eq_true rfl) (Nat.le_of_ble_eq_true rfl)
              · refine lv_iload_n hx hb d_E_rules_47 rfl (lv_at hl 2 rfl) ?_
                refine lv_bipush (v := 12) hx hb d_E_rules_48 (by decide) ?_
                refine lv_icmp_le (tgt := 63) hx hb d_E_rules_50 (by decide) (fun c_50 => ?_) (fun c_50 => ?_)
                · refine lv_aload_n hx hb d_E_rules_63 rfl (lv_at hl 0 rfl) ?_
                  refine m_get (v := .ref (ad 5)) (C := R_E) (T := T_E) (N := 8) hx hb hT in_E hown hC.1 hm 0 rfl ((congrFun hG 0).trans gE_c0) rfl 5 (by decide) (hT _ k_92) (fun _ h9 => h9) rfl d_E_rules_64 ?_
                  refine lv_iload_n hx hb d_E_rules_67 rfl (lv_at hl 1 rfl) ?_
                  refine m_put (v := .int p0) (ty := .int) (C := R_Ru) (T := T_Ru) (N := 4) hx hb hT in_Ru t_Ru tok_Ru nm_Ru hown hC.1 hm 5 rfl ((congrFun hG 5).trans gE_c5) rfl 0 (by decide) (hT _ k_71) (fun _ h9 => h9) rfl (by decide +kernel) rfl rfl (Nat.le_of_ble_eq_true rfl) d_E_rules_68 (fun H locs hm => ?_)
                  obtain ⟨G_1, eG_1⟩ : ∃ z : mG, z = va_up G 5 (some (.inr (2, [.int p0, .int (I 0 2), .int (I 0 3), .int (I 0 4)]))) := ⟨_, rfl⟩
                  have hm : mS D mCl (mA ad G s.heap.size) s.heap ad G_1 H locs := by rw [eG_1]; exact hm
                  have g_2 := (congrFun eG_1 0).trans ((va_up_ne _ _ (by omega)).trans ((congrFun hG 0).trans gE_c0))
                  have g_3 := (congrFun eG_1 1).trans ((va_up_ne _ _ (by omega)).trans ((congrFun hG 1).trans gE_c1))
                  have g_4 := (congrFun eG_1 2).trans ((va_up_ne _ _ (by omega)).trans ((congrFun hG 2).trans gE_c2))
                  have g_5 := (congrFun eG_1 3).trans ((va_up_ne _ _ (by omega)).trans ((congrFun hG 3).trans gE_c3))
                  have g_6 := (congrFun eG_1 4).trans ((va_up_ne _ _ (by omega)).trans ((congrFun hG 4).trans gE_c4))
                  have g_7 : G_1 5 = some (.inr (2, [.int p0, .int (I 0 2), .int (I 0 3), .int (I 0 4)])) := by rw [eG_1, va_up_self]
                  refine lv_aload_n hx hb d_E_rules_71 rfl (lv_at hl 0 rfl) ?_
                  refine m_get (v := .ref (ad 5)) (C := R_E) (T := T_E) (N := 8) hx hb hT in_E hown hC.1 hm 0 rfl g_2 rfl 5 (by decide) (hT _ k_92) (fun _ h9 => h9) rfl d_E_rules_72 ?_
                  refine lv_iload_n hx hb d_E_rules_75 rfl (lv_at hl 2 rfl) ?_
                  refine m_put (v := .int p1) (ty := .int) (C := R_Ru) (T := T_Ru) (N := 4) hx hb hT in_Ru t_Ru tok_Ru nm_Ru hown hC.1 hm 5 rfl g_7 rfl 1 (by decide) (hT _ k_73) (fun _ h9 => h9) rfl (by decide +kernel) rfl rfl (Nat.le_of_ble_eq_true rfl) d_E_rules_76 (fun H locs hm => ?_)
                  obtain ⟨G_8, eG_8⟩ : ∃ z : mG, z = va_up G_1 5 (some (.inr (2, [.int p0, .int p1, .int (I 0 3), .int (I 0 4)]))) := ⟨_, rfl⟩
                  have hm : mS D mCl (mA ad G s.heap.size) s.heap ad G_8 H locs := by rw [eG_8]; exact hm
                  have g_9 := (congrFun eG_8 0).trans ((va_up_ne _ _ (by omega)).trans g_2)
                  have g_10 := (congrFun eG_8 1).trans ((va_up_ne _ _ (by omega)).trans g_3)
                  have g_11 := (congrFun eG_8 2).trans ((va_up_ne _ _ (by omega)).trans g_4)
                  have g_12 := (congrFun eG_8 3).trans ((va_up_ne _ _ (by omega)).trans g_5)
                  have g_13 := (congrFun eG_8 4).trans ((va_up_ne _ _ (by omega)).trans g_6)
                  have g_14 : G_8 5 = some (.inr (2, [.int p0, .int p1, .int (I 0 3), .int (I 0 4)])) := by rw [eG_8, va_up_self]
                  refine lv_aload_n hx hb d_E_rules_79 rfl (lv_at hl 0 rfl) ?_
                  refine m_get (v := .ref (ad 5)) (C := R_E) (T := T_E) (N := 8) hx hb hT in_E hown hC.1 hm 0 rfl g_9 rfl 5 (by decide) (hT _ k_92) (fun _ h9 => h9) rfl d_E_rules_80 ?_
                  refine lv_iload_n hx hb d_E_rules_83 rfl (lv_at hl 3 rfl) ?_
                  refine m_put (v := .int p2) (ty := .int) (C := R_Ru) (T := T_Ru) (N := 4) hx hb hT in_Ru t_Ru tok_Ru nm_Ru hown hC.1 hm 5 rfl g_14 rfl 2 (by decide) (hT _ k_75) (fun _ h9 => h9) rfl (by decide +kernel) rfl rfl (Nat.le_of_ble_eq_true rfl) d_E_rules_84 (fun H locs hm => ?_)
                  obtain ⟨G_15, eG_15⟩ : ∃ z : mG, z = va_up G_8 5 (some (.inr (2, [.int p0, .int p1, .int p2, .int (I 0 4)]))) := ⟨_, rfl⟩
                  have hm : mS D mCl (mA ad G s.heap.size) s.heap ad G_15 H locs := by rw [eG_15]; exact hm
                  have g_16 := (congrFun eG_15 0).trans ((va_up_ne _ _ (by omega)).trans g_9)
                  have g_17 := (congrFun eG_15 1).trans ((va_up_ne _ _ (by omega)).trans g_10)
                  have g_18 := (congrFun eG_15 2).trans ((va_up_ne _ _ (by omega)).trans g_11)
                  have g_19 := (congrFun eG_15 3).trans ((va_up_ne _ _ (by omega)).trans g_12)
                  have g_20 := (congrFun eG_15 4).trans ((va_up_ne _ _ (by omega)).trans g_13)
                  have g_21 : G_15 5 = some (.inr (2, [.int p0, .int p1, .int p2, .int (I 0 4)])) := by rw [eG_15, va_up_self]
                  refine lv_aload_n hx hb d_E_rules_87 rfl (lv_at hl 0 rfl) ?_
                  refine m_get (v := .ref (ad 5)) (C := R_E) (T := T_E) (N := 8) hx hb hT in_E hown hC.1 hm 0 rfl g_16 rfl 5 (by decide) (hT _ k_92) (fun _ h9 => h9) rfl d_E_rules_88 ?_
                  refine lv_iload hx hb d_E_rules_91 (lv_at hl 4 rfl) ?_
                  refine m_put (v := .int p3) (ty := .int) (C := R_Ru) (T := T_Ru) (N := 4) hx hb hT in_Ru t_Ru tok_Ru nm_Ru hown hC.1 hm 5 rfl g_21 rfl 3 (by decide) (hT _ k_77) (fun _ h9 => h9) rfl (by decide +kernel) rfl rfl (Nat.le_of_ble_eq_true rfl) d_E_rules_93 (fun H locs hm => ?_)
                  obtain ⟨G_22, eG_22⟩ : ∃ z : mG, z = va_up G_15 5 (some (.inr (2, [.int p0, .int p1, .int p2, .int p3]))) := ⟨_, rfl⟩
                  have hm : mS D mCl (mA ad G s.heap.size) s.heap ad G_22 H locs := by rw [eG_22]; exact hm
                  have g_23 := (congrFun eG_22 0).trans ((va_up_ne _ _ (by omega)).trans g_16)
                  have g_24 := (congrFun eG_22 1).trans ((va_up_ne _ _ (by omega)).trans g_17)
                  have g_25 := (congrFun eG_22 2).trans ((va_up_ne _ _ (by omega)).trans g_18)
                  have g_26 := (congrFun eG_22 3).trans ((va_up_ne _ _ (by omega)).trans g_19)
                  have g_27 := (congrFun eG_22 4).trans ((va_up_ne _ _ (by omega)).trans g_20)
                  have g_28 : G_22 5 = some (.inr (2, [.int p0, .int p1, .int p2, .int p3])) := by rw [eG_22, va_up_self]
                  refine W.widen (k := 1) (n := 6) (by omega) (by omega) ?_
                  refine vx_ret ?_
                  exact m_vret hx hb hr hm (⟨fun h => h.elim c_1 (fun h => h.elim c_7 (fun h => h.elim c_11 (fun h => h.elim c_17 (fun h => h.elim c_22 (fun h => h.elim (fun h => Int32.not_lt.mpr c_29 h) (fun h => h.elim c_44 (fun h => Int32.not_lt.mpr c_50 h))))))), by rw [eG_22, eG_15, eG_8, eG_1, bx_uu, bx_uu, bx_uu, hG, gE_urules]⟩) d_E_rules_96 hlocks
                · exact m_throwS (cls := "java/lang/IllegalArgumentException") (text := "run is not 2 .. 12") (names := ["java/lang/RuntimeException", "java/lang/Exception"]) (tx := mTx) hx hb hlt hown (by decide +kernel) (by decide +kernel) (hT _ k_202) (hT _ k_9) (by decide +kernel) hC (at_IllegalArgumentException hT hC.2.2.2) (good_IllegalArgumentException) hm (hl.1.trans hml.symm) d_E_rules_53 d_E_rules_56 d_E_rules_57 d_E_rules_59 d_E_rules_62 hout (Nat.le_of_ble_eq_true rfl) (Nat.le_of_ble_eq_true rfl) (Nat.le_of_ble_eq_true rfl) (Nat.le_of_ble_eq_true rfl) hlocks (⟨⟨rfl, Or.inr (Or.inr (Or.inr (Or.inr (Or.inr (Or.inr (Or.inr ((Int32.not_le.mp c_50))))))))⟩, rfl⟩) (Nat.le_of_ble_eq_true rfl) (Nat.le_of_ble_eq_true rfl)
            · exact m_throwS (cls := "java/lang/IllegalArgumentException") (text := "high, middle or jump is not 0 .. 1000000") (names := ["java/lang/RuntimeException", "java/lang/Exception"]) (tx := mTx) hx hb hlt hown (by decide +kernel) (by decide +kernel) (hT _ k_202) (hT _ k_9) (by decide +kernel) hC (at_IllegalArgumentException hT hC.2.2.2) (good_IllegalArgumentException) hm (hl.1.trans hml.symm) d_E_rules_32 d_E_rules_35 d_E_rules_36 d_E_rules_38 d_E_rules_41 hout (Nat.le_of_ble_eq_true rfl) (Nat.le_of_ble_eq_true rfl) (Nat.le_of_ble_eq_true rfl) (Nat.le_of_ble_eq_true rfl) hlocks (⟨⟨rfl, Or.inr (Or.inr (Or.inr (Or.inr (Or.inr (Or.inl (Int32.not_le.mp c_29))))))⟩, rfl⟩) (Nat.le_of_ble_eq_true rfl) (Nat.le_of_ble_eq_true rfl)

set_option maxHeartbeats 4000000 in
set_option maxRecDepth 100000 in
theorem c_E_change (l : Launch) (hlt : l.stackTraces = false) (D : va_G) (dA : Nat → ClassId) (ad : Nat → Nat) (G : mG) (sz : Nat) (I : Nat → Nat → Int32) (J : Nat → Nat → Int64) (F : Nat → Nat → Nat → Int32) (si : Nat → Nat) (tc oc : Nat) (G0 : mG) (hG : G = gE dA ad I J F si tc oc G0) (ht : tc ≤ 12) (hL : ∀ i, i < 4 → ∃ c, c ≤ 40 ∧ I 2 i = nI c) (p0 : Int32) : vx_Met l y_E_change (.code y_E_change b_E_change 3 (some .int) :: mBig) ({ frames := 7, cells := 2, slots := 12, locals := 104 }) (mPc [.ref (ad 0), .int p0] D mCl (mTys dA) mTx ad G sz) (mQi (fun (rv : Int32) (u : mU) => (∃ i kc, i < 4 ∧ p0 = nI i ∧ kc ≤ 40 ∧ I 2 i = nI kc ∧ 1 ≤ kc ∧ rv = eBest (F 0 i) (I 3 i) (I 4 i) kc (kc - 1)) ∧ u = (ad, G)) D mCl ad G sz) (mXC (fun (E : String) (u : mU) => ((E = "java/lang/IndexOutOfBoundsException" ∧ ¬ ∃ i, i < 4 ∧ p0 = nI i) ∨ (E = "java/lang/IllegalStateException" ∧ ∃ i, i < 4 ∧ p0 = nI i ∧ I 2 i = 0)) ∧ u = (ad, G)) D mCl ad G sz) 2 12 (mA ad G sz) := by
  refine vx_ofW (cc := b_E_change) (maxL := 3) (ret := (some .int)) (by decide) rfl ?_
  intro p e s m args below meth c s₁ B hml hout hv
  obtain ⟨rfl, hsz, hw0, hC⟩ := hv
  have hx := B.exec
  have hb := B.bytes
  have hr := B.returns
  have hts := atoms_spec (ws := .code y_E_change b_E_change 3 (some .int) :: mBig) B.pre
  have hT : ∀ w ∈ mBig, w.before _ s = true := fun w h => hts w (List.mem_cons_of_mem _ h)
  have hown : s.vm.findClass "EdgeWear" = some m.cls := findClass_of_methodNamed B.named
  have hlocks := B.notSynchronized
  subst hsz
  have hm := mS.start hw0
  have hA : ∀ q : Nat, s.heap.size ≤ q → mA ad G s.heap.size q := fun q h => Or.inr h
  have hl := lv_entry ([.ref (ad 0), .int p0]) (n := 3) (Nat.le_of_ble_eq_true rfl)
  rw [lg_entry_eq]
  generalize (lg_sl ([.ref (ad 0), .int p0]) ++ List.replicate (3 - (lg_sl ([.ref (ad 0), .int p0])).length) Slot.unset).toArray = ls at hl ⊢
  have hl : lv_has ls 3 [(0, .ref (ad 0)), (1, .int p0)] := hl
  refine lv_aload_n hx hb d_E_change_0 rfl (lv_at hl 0 rfl) ?_
  refine lv_iload_n hx hb d_E_change_1 rfl (lv_at hl 1 rfl) ?_
  refine x_roq (x_runV (As := [.int p0]) (rest := []) ⟨hx, hb, hml, hown, hts⟩ (c_E_sortAt l hlt D dA ad G s.heap.size I J F si tc oc G0 hG ht p0) (cwV 1 hts (gV k_132 k_129 k_131 ks_0 k_1) rfl rfl rfl (by decide +kernel) ⟨Nat.le_of_ble_eq_true rfl, Nat.le_of_ble_eq_true rfl⟩) hm hA hC 0 rfl ((congrFun hG 0).trans gE_c0) rfl rfl rfl hl.1 rfl (Nat.le_of_ble_eq_true rfl) d_E_change_2 ⟨Nat.le_of_ble_eq_true rfl, Nat.le_of_ble_eq_true rfl⟩) hm hA (fun E ce q9 H locs w_2 hm h7 h8 h9 => ?_) (fun r_1 H locs w_2 hm => ?_)
  · exact m_out hout hlocks hm h7 h8 h9 (by
      obtain ⟨rfl, hq⟩ := w_2
      exact ⟨Or.inl ⟨rfl, hq⟩, rfl⟩) (by decide) (by decide)
  · obtain ⟨i, hi, epi, er⟩ := w_2
    subst er
    rw [show va_rf (some (ad (10 + i))) = .ref (ad (10 + i)) from rfl]
    refine lv_astore_n (lv' := [(2, .ref (ad (10 + i))), (0, .ref (ad 0)), (1, .int p0)]) hx hb d_E_change_5 rfl hl (by decide) rfl (fun ls hl => ?_)
    obtain ⟨kc, hkc, ekc⟩ := hL i hi
    refine lv_aload_n hx hb d_E_change_6 rfl (lv_at hl 0 rfl) ?_
    refine m_get (v := .int (I 2 i)) (C := R_So) (T := T_So) (N := 6) hx hb hT in_So hown hC.1 hm (10 + i) rfl ((congrFun hG (10 + i)).trans (gE_so hi)) rfl 2 (by decide) (hT _ k_38) (fun _ h9 => h9) rfl d_E_change_7 ?_
    refine lv_if_ne (tgt := 23) hx hb d_E_change_10 (by decide) (fun c_10 => ?_) (fun c_10 => ?_)
    · have hk1 : 1 ≤ kc := Nat.pos_of_ne_zero (fun q => c_10 (by rw [ekc, q]; rfl))
      refine lv_aload_n hx hb d_E_change_23 rfl (lv_at hl 0 rfl) ?_
      refine m_roi (m_runV (As := []) (rest := []) ⟨hx, hb, hml, hown, hts⟩ (c_So_bestUses l D dA ad G H.size (10 + i) (20 + i) (nI i) (I 2 i) (J 0 i) (I 3 i) (I 4 i) (F 0 i) kc ekc hkc hk1 ((congrFun hG (10 + i)).trans (gE_so hi)) ((congrFun hG (20 + i)).trans (gE_li hi))) (cwV 0 hts (gV k_422 k_419 k_420 k_421 k_2) rfl rfl rfl (by decide +kernel) ⟨Nat.le_of_ble_eq_true rfl, Nat.le_of_ble_eq_true rfl⟩) hm hA hC (10 + i) rfl ((congrFun hG (10 + i)).trans (gE_so hi)) rfl rfl rfl hl.1 rfl (Nat.le_of_ble_eq_true rfl) d_E_change_24 ⟨Nat.le_of_ble_eq_true rfl, Nat.le_of_ble_eq_true rfl⟩) hm hA (fun r_3 H locs w_4 hm => ?_)
      refine W.widen (k := 2) (n := 12) (by omega) (by omega) ?_
      refine vx_ret ?_
      exact m_iret (v := r_3) hx hb hr hm (⟨⟨i, kc, hi, epi, hkc, ekc, hk1, w_4⟩, rfl⟩) d_E_change_27 hlocks
    · exact m_throwS (cls := "java/lang/IllegalStateException") (text := "no lives") (names := ["java/lang/RuntimeException", "java/lang/Exception"]) (tx := mTx) hx hb hlt hown (by decide +kernel) (by decide +kernel) (hT _ k_218) (hT _ k_10) (by decide +kernel) hC (at_IllegalStateException hT hC.2.2.2) (good_IllegalStateException) hm (hl.1.trans hml.symm) d_E_change_13 d_E_change_16 d_E_change_17 d_E_change_19 d_E_change_22 hout (Nat.le_of_ble_eq_true rfl) (Nat.le_of_ble_eq_true rfl) (Nat.le_of_ble_eq_true rfl) (Nat.le_of_ble_eq_true rfl) hlocks (⟨Or.inr ⟨rfl, i, hi, epi, c_10⟩, rfl⟩) (Nat.le_of_ble_eq_true rfl) (Nat.le_of_ble_eq_true rfl)

set_option maxHeartbeats 4000000 in
set_option maxRecDepth 100000 in
theorem c_E_changed (l : Launch) (hlt : l.stackTraces = false) (D : va_G) (dA : Nat → ClassId) (ad : Nat → Nat) (G : mG) (sz : Nat) (I : Nat → Nat → Int32) (J : Nat → Nat → Int64) (F : Nat → Nat → Nat → Int32) (si : Nat → Nat) (tc oc : Nat) (G0 : mG) (hG : G = gE dA ad I J F si tc oc G0) (ht : tc ≤ 12) (hL : ∀ i, i < 4 → ∃ c, c ≤ 40 ∧ I 2 i = nI c) (p0 p1 p2 : Int32) : vx_Met l y_E_changed (.code y_E_changed b_E_changed 5 (some .long) :: mBig) ({ frames := 7, cells := 2, slots := 12, locals := 104 }) (mPc [.ref (ad 0), .int p0, .int p1, .int p2] D mCl (mTys dA) mTx ad G sz) (mQl (fun (rv : Int64) (u : mU) => (∃ i kc, i < 4 ∧ p0 = nI i ∧ kc ≤ 40 ∧ I 2 i = nI kc ∧ (p2 = 0 ∨ p2 = 1) ∧ ¬ p1 < 1 ∧ p1 ≤ eMax (F 0 i) kc ∧ rv = if p2 = 0 then eCost (F 0 i) (I 3 i) (I 4 i) p1 kc else eUses (F 0 i) p1 kc) ∧ u = (ad, G)) D mCl ad G sz) (mXC (fun (E : String) (u : mU) => ((E = "java/lang/IndexOutOfBoundsException" ∧ ¬ ((∃ i, i < 4 ∧ p0 = nI i) ∧ (p2 = 0 ∨ p2 = 1))) ∨ (E = "java/lang/IllegalArgumentException" ∧ ((∃ i, i < 4 ∧ p0 = nI i) ∧ (p2 = 0 ∨ p2 = 1)) ∧ p1 < 1) ∨ (E = "java/lang/IllegalStateException" ∧ (p2 = 0 ∨ p2 = 1) ∧ ¬ p1 < 1 ∧ ∃ i kc, i < 4 ∧ p0 = nI i ∧ kc ≤ 40 ∧ I 2 i = nI kc ∧ eMax (F 0 i) kc < p1)) ∧ u = (ad, G)) D mCl ad G sz) 2 12 (mA ad G sz) := by
  refine vx_ofW (cc := b_E_changed) (maxL := 5) (ret := (some .long)) (by decide) rfl ?_
  intro p e s m args below meth c s₁ B hml hout hv
  obtain ⟨rfl, hsz, hw0, hC⟩ := hv
  have hx := B.exec
  have hb := B.bytes
  have hr := B.returns
  have hts := atoms_spec (ws := .code y_E_changed b_E_changed 5 (some .long) :: mBig) B.pre
  have hT : ∀ w ∈ mBig, w.before _ s = true := fun w h => hts w (List.mem_cons_of_mem _ h)
  have hown : s.vm.findClass "EdgeWear" = some m.cls := findClass_of_methodNamed B.named
  have hlocks := B.notSynchronized
  subst hsz
  have hm := mS.start hw0
  have hA : ∀ q : Nat, s.heap.size ≤ q → mA ad G s.heap.size q := fun q h => Or.inr h
  have hl := lv_entry ([.ref (ad 0), .int p0, .int p1, .int p2]) (n := 5) (Nat.le_of_ble_eq_true rfl)
  rw [lg_entry_eq]
  generalize (lg_sl ([.ref (ad 0), .int p0, .int p1, .int p2]) ++ List.replicate (5 - (lg_sl ([.ref (ad 0), .int p0, .int p1, .int p2])).length) Slot.unset).toArray = ls at hl ⊢
  have hl : lv_has ls 5 [(0, .ref (ad 0)), (1, .int p0), (2, .int p1), (3, .int p2)] := hl
  refine lv_aload_n hx hb d_E_changed_0 rfl (lv_at hl 0 rfl) ?_
  refine lv_iload_n hx hb d_E_changed_1 rfl (lv_at hl 1 rfl) ?_
  refine x_roq (x_runV (As := [.int p0]) (rest := []) ⟨hx, hb, hml, hown, hts⟩ (c_E_sortAt l hlt D dA ad G s.heap.size I J F si tc oc G0 hG ht p0) (cwV 1 hts (gV k_132 k_129 k_131 ks_0 k_1) rfl rfl rfl (by decide +kernel) ⟨Nat.le_of_ble_eq_true rfl, Nat.le_of_ble_eq_true rfl⟩) hm hA hC 0 rfl ((congrFun hG 0).trans gE_c0) rfl rfl rfl hl.1 rfl (Nat.le_of_ble_eq_true rfl) d_E_changed_2 ⟨Nat.le_of_ble_eq_true rfl, Nat.le_of_ble_eq_true rfl⟩) hm hA (fun E ce q9 H locs w_2 hm h7 h8 h9 => ?_) (fun r_1 H locs w_2 hm => ?_)
  · exact m_out hout hlocks hm h7 h8 h9 (by
      obtain ⟨rfl, hq⟩ := w_2
      exact ⟨Or.inl ⟨rfl, fun h => hq h.1⟩, rfl⟩) (by decide) (by decide)
  · obtain ⟨i, hi, epi, er⟩ := w_2
    subst er
    rw [show va_rf (some (ad (10 + i))) = .ref (ad (10 + i)) from rfl]
    refine lv_astore (lv' := [(4, .ref (ad (10 + i))), (0, .ref (ad 0)), (1, .int p0), (2, .int p1), (3, .int p2)]) hx hb d_E_changed_5 hl (by decide) rfl (fun ls hl => ?_)
    obtain ⟨kc, hkc, ekc⟩ := hL i hi
    refine lv_iload_n hx hb d_E_changed_7 rfl (lv_at hl 4 rfl) ?_
    refine lv_if_eq (tgt := 26) hx hb d_E_changed_8 (by decide) (fun c_8 => ?_) (fun c_8 => ?_)
    · refine lv_iload_n hx hb d_E_changed_26 rfl (lv_at hl 3 rfl) ?_
      refine lv_iconst (v := 1) hx hb d_E_changed_27 (by decide) ?_
      refine lv_icmp_ge (tgt := 41) hx hb d_E_changed_28 (by decide) (fun c_28 => ?_) (fun c_28 => ?_)
      · refine lv_iload_n hx hb d_E_changed_41 rfl (lv_at hl 3 rfl) ?_
        refine lv_aload hx hb d_E_changed_42 (lv_at hl 0 rfl) ?_
        refine m_roi (m_runV (As := []) (rest := [.int p1]) ⟨hx, hb, hml, hown, hts⟩ (c_So_greatestLife l D dA ad G H.size (10 + i) (20 + i) (nI i) (I 2 i) (J 0 i) (I 3 i) (I 4 i) (F 0 i) kc ekc hkc ((congrFun hG (10 + i)).trans (gE_so hi)) ((congrFun hG (20 + i)).trans (gE_li hi))) (cwV 0 hts (gV k_450 k_447 k_448 k_449 k_2) rfl rfl rfl (by decide +kernel) ⟨Nat.le_of_ble_eq_true rfl, Nat.le_of_ble_eq_true rfl⟩) hm hA hC (10 + i) rfl ((congrFun hG (10 + i)).trans (gE_so hi)) rfl rfl rfl hl.1 rfl (Nat.le_of_ble_eq_true rfl) d_E_changed_44 ⟨Nat.le_of_ble_eq_true rfl, Nat.le_of_ble_eq_true rfl⟩) hm hA (fun r_3 H locs w_4 hm => ?_)
        refine lv_icmp_le (tgt := 60) hx hb d_E_changed_47 (by decide) (fun c_47 => ?_) (fun c_47 => ?_)
        · refine lv_iload_n hx hb d_E_changed_60 rfl (lv_at hl 4 rfl) ?_
          refine lv_if_ne (tgt := 73) hx hb d_E_changed_61 (by decide) (fun c_61 => ?_) (fun c_61 => ?_)
          · refine lv_aload hx hb d_E_changed_73 (lv_at hl 0 rfl) ?_
            refine lv_iload_n hx hb d_E_changed_75 rfl (lv_at hl 3 rfl) ?_
            refine m_rol (m_runV (As := [.int p1]) (rest := []) ⟨hx, hb, hml, hown, hts⟩ (c_So_usesAt l D dA ad G H.size (10 + i) (20 + i) (nI i) (I 2 i) (J 0 i) (I 3 i) (I 4 i) (F 0 i) p1 kc ekc hkc ((congrFun hG (10 + i)).trans (gE_so hi)) ((congrFun hG (20 + i)).trans (gE_li hi))) (cwV 1 hts (gV k_434 k_456 k_432 k_433 k_2) rfl rfl rfl (by decide +kernel) ⟨Nat.le_of_ble_eq_true rfl, Nat.le_of_ble_eq_true rfl⟩) hm hA hC (10 + i) rfl ((congrFun hG (10 + i)).trans (gE_so hi)) rfl rfl rfl hl.1 rfl (Nat.le_of_ble_eq_true rfl) d_E_changed_76 ⟨Nat.le_of_ble_eq_true rfl, Nat.le_of_ble_eq_true rfl⟩) hm hA (fun r_5 H locs w_6 hm => ?_)
            refine W.widen (k := 2) (n := 12) (by omega) (by omega) ?_
            refine vx_ret ?_
            exact m_lret (v := r_5) hx hb hr hm (⟨⟨i, kc, hi, epi, hkc, ekc, Or.inl c_8, Int32.not_lt.mpr c_28, by have h9 := c_47; rw [w_4] at h9; exact h9, by rw [if_neg c_61, w_6]⟩, rfl⟩) d_E_changed_79 hlocks
          · refine lv_aload hx hb d_E_changed_64 (lv_at hl 0 rfl) ?_
            refine lv_iload_n hx hb d_E_changed_66 rfl (lv_at hl 3 rfl) ?_
            refine m_rol (m_runV (As := [.int p1]) (rest := []) ⟨hx, hb, hml, hown, hts⟩ (c_So_costAt l D dA ad G H.size (10 + i) (20 + i) (nI i) (I 2 i) (J 0 i) (I 3 i) (I 4 i) (F 0 i) p1 kc ekc hkc ((congrFun hG (10 + i)).trans (gE_so hi)) ((congrFun hG (20 + i)).trans (gE_li hi))) (cwV 1 hts (gV k_430 k_455 k_428 k_429 k_2) rfl rfl rfl (by decide +kernel) ⟨Nat.le_of_ble_eq_true rfl, Nat.le_of_ble_eq_true rfl⟩) hm hA hC (10 + i) rfl ((congrFun hG (10 + i)).trans (gE_so hi)) rfl rfl rfl hl.1 rfl (Nat.le_of_ble_eq_true rfl) d_E_changed_67 ⟨Nat.le_of_ble_eq_true rfl, Nat.le_of_ble_eq_true rfl⟩) hm hA (fun r_7 H locs w_8 hm => ?_)
            refine lv_goto (tgt := 79) hx hb d_E_changed_70 (by decide) ?_
            refine W.widen (k := 2) (n := 12) (by omega) (by omega) ?_
            refine vx_ret ?_
            exact m_lret (v := r_7) hx hb hr hm (⟨⟨i, kc, hi, epi, hkc, ekc, Or.inl c_8, Int32.not_lt.mpr c_28, by have h9 := c_47; rw [w_4] at h9; exact h9, by rw [if_pos c_61, w_8]⟩, rfl⟩) d_E_changed_79 hlocks
        · exact m_throwS (cls := "java/lang/IllegalStateException") (text := "no lives, or n is above the greatest") (names := ["java/lang/RuntimeException", "java/lang/Exception"]) (tx := mTx) hx hb hlt hown (by decide +kernel) (by decide +kernel) (hT _ k_218) (hT _ k_10) (by decide +kernel) hC (at_IllegalStateException hT hC.2.2.2) (good_IllegalStateException) hm (hl.1.trans hml.symm) d_E_changed_50 d_E_changed_53 d_E_changed_54 d_E_changed_56 d_E_changed_59 hout (Nat.le_of_ble_eq_true rfl) (Nat.le_of_ble_eq_true rfl) (Nat.le_of_ble_eq_true rfl) (Nat.le_of_ble_eq_true rfl) hlocks (⟨Or.inr (Or.inr ⟨rfl, Or.inl c_8, Int32.not_lt.mpr c_28, i, kc, hi, epi, hkc, ekc, by have h9 := Int32.not_le.mp c_47; rw [w_4] at h9; exact h9⟩), rfl⟩) (Nat.le_of_ble_eq_true rfl) (Nat.le_of_ble_eq_true rfl)
      · exact m_throwS (cls := "java/lang/IllegalArgumentException") (text := "n is below 1") (names := ["java/lang/RuntimeException", "java/lang/Exception"]) (tx := mTx) hx hb hlt hown (by decide +kernel) (by decide +kernel) (hT _ k_202) (hT _ k_9) (by decide +kernel) hC (at_IllegalArgumentException hT hC.2.2.2) (good_IllegalArgumentException) hm (hl.1.trans hml.symm) d_E_changed_31 d_E_changed_34 d_E_changed_35 d_E_changed_37 d_E_changed_40 hout (Nat.le_of_ble_eq_true rfl) (Nat.le_of_ble_eq_true rfl) (Nat.le_of_ble_eq_true rfl) (Nat.le_of_ble_eq_true rfl) hlocks (⟨Or.inr (Or.inl ⟨rfl, ⟨⟨i, hi, epi⟩, Or.inl c_8⟩, Int32.not_le.mp c_28⟩), rfl⟩) (Nat.le_of_ble_eq_true rfl) (Nat.le_of_ble_eq_true rfl)
    · refine lv_iload_n hx hb d_E_changed_11 rfl (lv_at hl 4 rfl) ?_
      refine lv_iconst (v := 1) hx hb d_E_changed_12 (by decide) ?_
      refine lv_icmp_eq (tgt := 26) hx hb d_E_changed_13 (by decide) (fun c_13 => ?_) (fun c_13 => ?_)
      · refine lv_iload_n hx hb d_E_changed_26 rfl (lv_at hl 3 rfl) ?_
        refine lv_iconst (v := 1) hx hb d_E_changed_27 (by decide) ?_
        refine lv_icmp_ge (tgt := 41) hx hb d_E_changed_28 (by decide) (fun c_28 => ?_) (fun c_28 => ?_)
        · refine lv_iload_n hx hb d_E_changed_41 rfl (lv_at hl 3 rfl) ?_
          refine lv_aload hx hb d_E_changed_42 (lv_at hl 0 rfl) ?_
          refine m_roi (m_runV (As := []) (rest := [.int p1]) ⟨hx, hb, hml, hown, hts⟩ (c_So_greatestLife l D dA ad G H.size (10 + i) (20 + i) (nI i) (I 2 i) (J 0 i) (I 3 i) (I 4 i) (F 0 i) kc ekc hkc ((congrFun hG (10 + i)).trans (gE_so hi)) ((congrFun hG (20 + i)).trans (gE_li hi))) (cwV 0 hts (gV k_450 k_447 k_448 k_449 k_2) rfl rfl rfl (by decide +kernel) ⟨Nat.le_of_ble_eq_true rfl, Nat.le_of_ble_eq_true rfl⟩) hm hA hC (10 + i) rfl ((congrFun hG (10 + i)).trans (gE_so hi)) rfl rfl rfl hl.1 rfl (Nat.le_of_ble_eq_true rfl) d_E_changed_44 ⟨Nat.le_of_ble_eq_true rfl, Nat.le_of_ble_eq_true rfl⟩) hm hA (fun r_9 H locs w_10 hm => ?_)
          refine lv_icmp_le (tgt := 60) hx hb d_E_changed_47 (by decide) (fun c_47 => ?_) (fun c_47 => ?_)
          · refine lv_iload_n hx hb d_E_changed_60 rfl (lv_at hl 4 rfl) ?_
            refine lv_if_ne (tgt := 73) hx hb d_E_changed_61 (by decide) (fun c_61 => ?_) (fun c_61 => ?_)
            · refine lv_aload hx hb d_E_changed_73 (lv_at hl 0 rfl) ?_
              refine lv_iload_n hx hb d_E_changed_75 rfl (lv_at hl 3 rfl) ?_
              refine m_rol (m_runV (As := [.int p1]) (rest := []) ⟨hx, hb, hml, hown, hts⟩ (c_So_usesAt l D dA ad G H.size (10 + i) (20 + i) (nI i) (I 2 i) (J 0 i) (I 3 i) (I 4 i) (F 0 i) p1 kc ekc hkc ((congrFun hG (10 + i)).trans (gE_so hi)) ((congrFun hG (20 + i)).trans (gE_li hi))) (cwV 1 hts (gV k_434 k_456 k_432 k_433 k_2) rfl rfl rfl (by decide +kernel) ⟨Nat.le_of_ble_eq_true rfl, Nat.le_of_ble_eq_true rfl⟩) hm hA hC (10 + i) rfl ((congrFun hG (10 + i)).trans (gE_so hi)) rfl rfl rfl hl.1 rfl (Nat.le_of_ble_eq_true rfl) d_E_changed_76 ⟨Nat.le_of_ble_eq_true rfl, Nat.le_of_ble_eq_true rfl⟩) hm hA (fun r_11 H locs w_12 hm => ?_)
              refine W.widen (k := 2) (n := 12) (by omega) (by omega) ?_
              refine vx_ret ?_
              exact m_lret (v := r_11) hx hb hr hm (⟨⟨i, kc, hi, epi, hkc, ekc, Or.inr c_13, Int32.not_lt.mpr c_28, by have h9 := c_47; rw [w_10] at h9; exact h9, by rw [if_neg c_61, w_12]⟩, rfl⟩) d_E_changed_79 hlocks
            · refine lv_aload hx hb d_E_changed_64 (lv_at hl 0 rfl) ?_
              refine lv_iload_n hx hb d_E_changed_66 rfl (lv_at hl 3 rfl) ?_
              refine m_rol (m_runV (As := [.int p1]) (rest := []) ⟨hx, hb, hml, hown, hts⟩ (c_So_costAt l D dA ad G H.size (10 + i) (20 + i) (nI i) (I 2 i) (J 0 i) (I 3 i) (I 4 i) (F 0 i) p1 kc ekc hkc ((congrFun hG (10 + i)).trans (gE_so hi)) ((congrFun hG (20 + i)).trans (gE_li hi))) (cwV 1 hts (gV k_430 k_455 k_428 k_429 k_2) rfl rfl rfl (by decide +kernel) ⟨Nat.le_of_ble_eq_true rfl, Nat.le_of_ble_eq_true rfl⟩) hm hA hC (10 + i) rfl ((congrFun hG (10 + i)).trans (gE_so hi)) rfl rfl rfl hl.1 rfl (Nat.le_of_ble_eq_true rfl) d_E_changed_67 ⟨Nat.le_of_ble_eq_true rfl, Nat.le_of_ble_eq_true rfl⟩) hm hA (fun r_13 H locs w_14 hm => ?_)
              refine lv_goto (tgt := 79) hx hb d_E_changed_70 (by decide) ?_
              refine W.widen (k := 2) (n := 12) (by omega) (by omega) ?_
              refine vx_ret ?_
              exact m_lret (v := r_13) hx hb hr hm (⟨⟨i, kc, hi, epi, hkc, ekc, Or.inr c_13, Int32.not_lt.mpr c_28, by have h9 := c_47; rw [w_10] at h9; exact h9, by rw [if_pos c_61, w_14]⟩, rfl⟩) d_E_changed_79 hlocks
          · exact m_throwS (cls := "java/lang/IllegalStateException") (text := "no lives, or n is above the greatest") (names := ["java/lang/RuntimeException", "java/lang/Exception"]) (tx := mTx) hx hb hlt hown (by decide +kernel) (by decide +kernel) (hT _ k_218) (hT _ k_10) (by decide +kernel) hC (at_IllegalStateException hT hC.2.2.2) (good_IllegalStateException) hm (hl.1.trans hml.symm) d_E_changed_50 d_E_changed_53 d_E_changed_54 d_E_changed_56 d_E_changed_59 hout (Nat.le_of_ble_eq_true rfl) (Nat.le_of_ble_eq_true rfl) (Nat.le_of_ble_eq_true rfl) (Nat.le_of_ble_eq_true rfl) hlocks (⟨Or.inr (Or.inr ⟨rfl, Or.inr c_13, Int32.not_lt.mpr c_28, i, kc, hi, epi, hkc, ekc, by have h9 := Int32.not_le.mp c_47; rw [w_10] at h9; exact h9⟩), rfl⟩) (Nat.le_of_ble_eq_true rfl) (Nat.le_of_ble_eq_true rfl)
        · exact m_throwS (cls := "java/lang/IllegalArgumentException") (text := "n is below 1") (names := ["java/lang/RuntimeException", "java/lang/Exception"]) (tx := mTx) hx hb hlt hown (by decide +kernel) (by decide +kernel) (hT _ k_202) (hT _ k_9) (by decide +kernel) hC (at_IllegalArgumentException hT hC.2.2.2) (good_IllegalArgumentException) hm (hl.1.trans hml.symm) d_E_changed_31 d_E_changed_34 d_E_changed_35 d_E_changed_37 d_E_changed_40 hout (Nat.le_of_ble_eq_true rfl) (Nat.le_of_ble_eq_true rfl) (Nat.le_of_ble_eq_true rfl) (Nat.le_of_ble_eq_true rfl) hlocks (⟨Or.inr (Or.inl ⟨rfl, ⟨⟨i, hi, epi⟩, Or.inr c_13⟩, Int32.not_le.mp c_28⟩), rfl⟩) (Nat.le_of_ble_eq_true rfl) (Nat.le_of_ble_eq_true rfl)
      · exact m_throwS (cls := "java/lang/IndexOutOfBoundsException") (text := "no such part") (names := ["java/lang/RuntimeException", "java/lang/Exception"]) (tx := mTx) hx hb hlt hown (by decide +kernel) (by decide +kernel) (hT _ k_133) (hT _ k_8) (by decide +kernel) hC (at_IndexOutOfBoundsException hT hC.2.2.2) (good_IndexOutOfBoundsException) hm (hl.1.trans hml.symm) d_E_changed_16 d_E_changed_19 d_E_changed_20 d_E_changed_22 d_E_changed_25 hout (Nat.le_of_ble_eq_true rfl) (Nat.le_of_ble_eq_true rfl) (Nat.le_of_ble_eq_true rfl) (Nat.le_of_ble_eq_true rfl) hlocks (⟨Or.inl ⟨rfl, fun h => h.2.elim c_8 c_13⟩, rfl⟩) (Nat.le_of_ble_eq_true rfl) (Nat.le_of_ble_eq_true rfl)
