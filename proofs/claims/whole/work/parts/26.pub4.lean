set_option maxHeartbeats 4000000 in
set_option maxRecDepth 100000 in
theorem c_E_take (l : Launch) (hlt : l.stackTraces = false) (D : va_G) (dA : Nat → ClassId) (ad : Nat → Nat) (G : mG) (sz : Nat) (I : Nat → Nat → Int32) (J : Nat → Nat → Int64) (F : Nat → Nat → Nat → Int32) (si : Nat → Nat) (tc oc : Nat) (G0 : mG) (hG : G = gE dA ad I J F si tc oc G0) (ht : tc ≤ 12) (hs : ∀ i, i < tc → si i < 4) (p0 : Int32) : vx_Met l y_E_take (.code y_E_take b_E_take 3 (some .int) :: mBig) ({ frames := 7, cells := 2, slots := 12, locals := 104 }) (mPc [.ref (ad 0), .int p0] D mCl (mTys dA) mTx ad G sz) (mQi (fun (rv : Int32) (u : mU) => (∃ i, i < 4 ∧ p0 = nI i ∧ rv = (eNx (eSp I J si tc (nI i)) (I 5) 12).1 ∧ ((rv = -1 ∧ u = (ad, gE dA ad I J F si tc oc G0)) ∨ ∃ t, t < tc ∧ rv = nI t ∧ u = (ad, gE dA ad (up2 I 8 t 1) J F si tc oc G0)))) D mCl ad G sz) (mXC (fun (E : String) (u : mU) => (E = "java/lang/IndexOutOfBoundsException" ∧ ¬ ∃ i, i < 4 ∧ p0 = nI i) ∧ u = (ad, G)) D mCl ad G sz) 2 12 (mA ad G sz) := by
  refine vx_ofW (cc := b_E_take) (maxL := 3) (ret := (some .int)) (by decide) rfl ?_
  intro p e s m args below meth c s₁ B hml hout hv
  obtain ⟨rfl, hsz, hw0, hC⟩ := hv
  have hx := B.exec
  have hb := B.bytes
  have hr := B.returns
  have hts := atoms_spec (ws := .code y_E_take b_E_take 3 (some .int) :: mBig) B.pre
  have hT : ∀ w ∈ mBig, w.before _ s = true := fun w h => hts w (List.mem_cons_of_mem _ h)
  have hown : s.vm.findClass "EdgeWear" = some m.cls := findClass_of_methodNamed B.named
  have hlocks := B.notSynchronized
  subst hsz
  have hm := mS.start hw0
  have hA : ∀ q : Nat, s.heap.size ≤ q → mA ad G s.heap.size q := fun q h => Or.inr h
  have hl := lv_entry ([.ref (ad 0), .int p0]) (n := 3) (Nat.le_of_ble_eq_true rfl)
  rw [lg_entry_eq]
  generalize (lg_sl ([.ref (ad 0), .int p0]) ++ List.replicate (3 - (lg_sl ([.ref (ad 0), .int p0])).length) Slot.unset).toArray = ls at hl ⊢
  have hl : lv_has ls 3 [(0, .ref (ad 0)), (1, .int p0)] := hl
  refine lv_aload_n hx hb d_E_take_0 rfl (lv_at hl 0 rfl) ?_
  refine lv_aload_n hx hb d_E_take_1 rfl (lv_at hl 0 rfl) ?_
  refine lv_iload_n hx hb d_E_take_2 rfl (lv_at hl 1 rfl) ?_
  refine x_roq (x_runV (As := [.int p0]) (rest := [.ref (ad 0)]) ⟨hx, hb, hml, hown, hts⟩ (c_E_sortAt l hlt D dA ad G s.heap.size I J F si tc oc G0 hG ht p0) (cwV 1 hts (gV k_132 k_129 k_131 ks_0 k_1) rfl rfl rfl (by decide +kernel) ⟨Nat.le_of_ble_eq_true rfl, Nat.le_of_ble_eq_true rfl⟩) hm hA hC 0 rfl ((congrFun hG 0).trans gE_c0) rfl rfl rfl hl.1 rfl (Nat.le_of_ble_eq_true rfl) d_E_take_3 ⟨Nat.le_of_ble_eq_true rfl, Nat.le_of_ble_eq_true rfl⟩) hm hA (fun E ce q9 H locs w_2 hm h7 h8 h9 => ?_) (fun r_1 H locs w_2 hm => ?_)
  · exact m_out hout hlocks hm h7 h8 h9 (by
      obtain ⟨rfl, hq⟩ := w_2
      exact ⟨⟨rfl, hq⟩, rfl⟩) (by decide) (by decide)
  · obtain ⟨i, hi, epi, er⟩ := w_2
    subst er
    rw [show va_rf (some (ad (10 + i))) = .ref (ad (10 + i)) from rfl]
    refine m_get (v := .int (nI i)) (C := R_So) (T := T_So) (N := 6) hx hb hT in_So hown hC.1 hm (10 + i) rfl ((congrFun hG (10 + i)).trans (gE_so hi)) rfl 0 (by decide) (hT _ k_34) (fun _ h9 => h9) rfl d_E_take_6 ?_
    refine m_roi (m_runV (As := [.int (nI i)]) (rest := []) ⟨hx, hb, hml, hown, hts⟩ (c_E_nextSpare l D dA ad G H.size I J F si tc oc G0 hG ht hs (nI i)) (cwV 1 hts (gV k_385 k_382 k_384 ks_3 k_1) rfl rfl rfl (by decide +kernel) ⟨Nat.le_of_ble_eq_true rfl, Nat.le_of_ble_eq_true rfl⟩) hm hA hC 0 rfl ((congrFun hG 0).trans gE_c0) rfl rfl rfl hl.1 rfl (Nat.le_of_ble_eq_true rfl) d_E_take_9 ⟨Nat.le_of_ble_eq_true rfl, Nat.le_of_ble_eq_true rfl⟩) hm hA (fun r_3 H locs w_4 hm => ?_)
    refine lv_istore_n (lv' := [(2, .int r_3), (0, .ref (ad 0)), (1, .int p0)]) hx hb d_E_take_12 rfl hl (by decide) rfl (fun ls hl => ?_)
    refine lv_iload_n hx hb d_E_take_13 rfl (lv_at hl 0 rfl) ?_
    refine lv_iconst (v := (-1)) hx hb d_E_take_14 (by decide) ?_
    refine lv_icmp_eq (tgt := 27) hx hb d_E_take_15 (by decide) (fun c_15 => ?_) (fun c_15 => ?_)
    · refine lv_iload_n hx hb d_E_take_27 rfl (lv_at hl 0 rfl) ?_
      refine W.widen (k := 2) (n := 12) (by omega) (by omega) ?_
      refine vx_ret ?_
      exact m_iret (v := r_3) hx hb hr hm (⟨i, hi, epi, w_4, Or.inl ⟨c_15, by rw [hG]⟩⟩) d_E_take_28 hlocks
    · refine lv_aload_n hx hb d_E_take_18 rfl (lv_at hl 1 rfl) ?_
      refine lv_iload_n hx hb d_E_take_19 rfl (lv_at hl 0 rfl) ?_
      refine x_roq (x_runV (As := [.int r_3]) (rest := []) ⟨hx, hb, hml, hown, hts⟩ (c_E_toolAt l hlt D dA ad G H.size I J F si tc oc G0 hG ht r_3) (cwV 1 hts (gV k_323 k_320 k_322 ks_2 k_1) rfl rfl rfl (by decide +kernel) ⟨Nat.le_of_ble_eq_true rfl, Nat.le_of_ble_eq_true rfl⟩) hm hA hC 0 rfl ((congrFun hG 0).trans gE_c0) rfl rfl rfl hl.1 rfl (Nat.le_of_ble_eq_true rfl) d_E_take_20 ⟨Nat.le_of_ble_eq_true rfl, Nat.le_of_ble_eq_true rfl⟩) hm hA (fun E ce q9 H locs w_6 hm h7 h8 h9 => ?_) (fun r_5 H locs w_6 hm => ?_)
      · exfalso
        rcases eNx_in (eSp I J si tc (nI i)) (I 5) 12 with h | ⟨t, ht1, ht2, ht3⟩
        · exact c_15 (by rw [w_4, h])
        · exact w_6.2 ⟨t, (of_decide_eq_true ht2).1, by rw [w_4, ht3]⟩
      · obtain ⟨ta, hta, epta, er⟩ := w_6
        subst er
        rw [show va_rf (some (ad (100 + ta))) = .ref (ad (100 + ta)) from rfl]
        refine lv_iconst (v := 1) hx hb d_E_take_23 (by decide) ?_
        refine m_put (v := .int 1) (ty := .boolean) (C := R_To) (T := T_To) (N := 9) hx hb hT in_To t_To tok_To nm_To hown hC.1 hm (100 + ta) rfl ((congrFun hG (100 + ta)).trans (gE_to hta ht)) rfl 8 (by decide) (hT _ k_272) (fun _ h9 => h9) rfl (by decide +kernel) rfl rfl (Nat.le_of_ble_eq_true rfl) d_E_take_24 (fun H locs hm => ?_)
        obtain ⟨G_7, eG_7⟩ : ∃ z : mG, z = va_up G (100 + ta) (some (.inr (4, [.ref (ad (10 + si ta)), .int (I 6 ta), .ref (ad (200 + ta)), .int (I 5 ta), .long (J 1 ta), .long (J 2 ta), .long (J 3 ta), .int (I 7 ta), .int 1]))) := ⟨_, rfl⟩
        have hm : mS D mCl (mA ad G s.heap.size) s.heap ad G_7 H locs := by rw [eG_7]; exact hm
        have g_8 := (congrFun eG_7 0).trans ((va_up_ne _ _ (by omega)).trans ((congrFun hG 0).trans gE_c0))
        have g_9 := (congrFun eG_7 1).trans ((va_up_ne _ _ (by omega)).trans ((congrFun hG 1).trans gE_c1))
        have g_10 := (congrFun eG_7 2).trans ((va_up_ne _ _ (by omega)).trans ((congrFun hG 2).trans gE_c2))
        have g_11 := (congrFun eG_7 3).trans ((va_up_ne _ _ (by omega)).trans ((congrFun hG 3).trans gE_c3))
        have g_12 := (congrFun eG_7 4).trans ((va_up_ne _ _ (by omega)).trans ((congrFun hG 4).trans gE_c4))
        have g_13 := (congrFun eG_7 5).trans ((va_up_ne _ _ (by omega)).trans ((congrFun hG 5).trans gE_c5))
        have g_14 := (congrFun eG_7 (10 + i)).trans ((va_up_ne _ _ (by omega)).trans ((congrFun hG (10 + i)).trans (gE_so hi)))
        have g_15 := (congrFun eG_7 (20 + i)).trans ((va_up_ne _ _ (by omega)).trans ((congrFun hG (20 + i)).trans (gE_li hi)))
        have g_16 : G_7 (100 + ta) = some (.inr (4, [.ref (ad (10 + si ta)), .int (I 6 ta), .ref (ad (200 + ta)), .int (I 5 ta), .long (J 1 ta), .long (J 2 ta), .long (J 3 ta), .int (I 7 ta), .int 1])) := by rw [eG_7, va_up_self]
        refine lv_iload_n hx hb d_E_take_27 rfl (lv_at hl 0 rfl) ?_
        refine vx_ret ?_
        exact m_iret (v := r_3) hx hb hr hm (⟨i, hi, epi, w_4, Or.inr ⟨ta, hta, epta, by rw [eG_7, hG, gE_utool hta ht, up2_id, up2_id, up2_id, up2_id, up2_id]⟩⟩) d_E_take_28 hlocks

set_option maxHeartbeats 4000000 in
set_option maxRecDepth 100000 in
theorem c_E_isAnyDue (l : Launch) (D : va_G) (dA : Nat → ClassId) (ad : Nat → Nat) (G : mG) (sz : Nat) (I : Nat → Nat → Int32) (J : Nat → Nat → Int64) (F : Nat → Nat → Nat → Int32) (si : Nat → Nat) (tc oc : Nat) (G0 : mG) (hG : G = gE dA ad I J F si tc oc G0) (ht : tc ≤ 12) (ho : oc ≤ 16) (p0 p1 : Int32) : Met l y_E_isAnyDue (.code y_E_isAnyDue b_E_isAnyDue 5 (some .boolean) :: mBig) ({ frames := 1, cells := 0, slots := 0, locals := 22 }) (mPc [.ref (ad 0), .int p0, .int p1] D mCl (mTys dA) mTx ad G sz) (mQi (fun (rv : Int32) (u : mU) => (bv rv (∃ t, t < oc ∧ eDu I oc p0 p1 t = true)) ∧ u = (ad, G)) D mCl ad G sz) 0 0 (mA ad G sz) := by
  refine Met.ofW (cc := b_E_isAnyDue) (maxL := 5) (ret := (some .boolean)) (by decide) rfl ?_
  intro p e s m args below meth c s₁ B hml hv
  obtain ⟨rfl, hsz, hw0, hC⟩ := hv
  have hx := B.exec
  have hb := B.bytes
  have hr := B.returns
  have hts := atoms_spec (ws := .code y_E_isAnyDue b_E_isAnyDue 5 (some .boolean) :: mBig) B.pre
  have hT : ∀ w ∈ mBig, w.before _ s = true := fun w h => hts w (List.mem_cons_of_mem _ h)
  have hown : s.vm.findClass "EdgeWear" = some m.cls := findClass_of_methodNamed B.named
  have hlocks := B.notSynchronized
  subst hsz
  have hm := mS.start hw0
  have hA : ∀ q : Nat, s.heap.size ≤ q → mA ad G s.heap.size q := fun q h => Or.inr h
  have hl := lv_entry ([.ref (ad 0), .int p0, .int p1]) (n := 5) (Nat.le_of_ble_eq_true rfl)
  rw [lg_entry_eq]
  generalize (lg_sl ([.ref (ad 0), .int p0, .int p1]) ++ List.replicate (5 - (lg_sl ([.ref (ad 0), .int p0, .int p1])).length) Slot.unset).toArray = ls at hl ⊢
  have hl : lv_has ls 5 [(0, .ref (ad 0)), (1, .int p0), (2, .int p1)] := hl
  refine lv_iconst (v := 0) hx hb d_E_isAnyDue_0 (by decide) ?_
  refine lv_istore_n (lv' := [(3, .int 0), (0, .ref (ad 0)), (1, .int p0), (2, .int p1)]) hx hb d_E_isAnyDue_1 rfl hl (by decide) rfl (fun ls hl => ?_)
  refine m_loopH (nL := 5) (head := 2) (fun (q9 : Nat) => fun (x : Nat) => match x with | j => q9 + j = 17 ∧ j ≤ 16 ∧ ∀ t, t < j → ¬ eDu I oc p0 p1 t = true) (fun (x : Nat) => match x with | j => [(0, .ref (ad 0)), (1, .int p0), (2, .int p1), (3, .int (nI j))]) (fun _ => G) (fun j h => by have h1 := h.1; have h2 := h.2.1; omega) (fun q9 x ls H locs hI hl hm ih2 => ?_) (16) (0) (⟨by omega, by omega, fun t h => absurd h (Nat.not_lt_zero t)⟩) (lv_sub hl [1, 2, 3, 0] rfl) hm
  obtain ⟨j, ej⟩ : ∃ z, z = x := ⟨_, rfl⟩
  subst ej
  replace hI : (fun (q9 : Nat) => q9 + j = 17 ∧ j ≤ 16 ∧ ∀ t, t < j → ¬ eDu I oc p0 p1 t = true) (q9 + 1) := hI
  have hl : lv_has ls 5 [(0, .ref (ad 0)), (1, .int p0), (2, .int p1), (3, .int (nI j))] := hl
  refine lv_iload_n hx hb d_E_isAnyDue_2 rfl (lv_at hl 3 rfl) ?_
  refine lv_aload_n hx hb d_E_isAnyDue_3 rfl (lv_at hl 0 rfl) ?_
  refine m_get (v := .ref (ad 4)) (C := R_E) (T := T_E) (N := 8) hx hb hT in_E hown hC.1 hm 0 rfl ((congrFun hG 0).trans gE_c0) rfl 4 (by decide) (hT _ k_91) (fun _ h9 => h9) rfl d_E_isAnyDue_4 ?_
  refine m_alen (v := 16) hx hb hC.1 hm 4 rfl 5 ((congrFun hG 4).trans gE_c4) rfl rfl d_E_isAnyDue_7 ?_
  refine lv_icmp_ge (tgt := 42) hx hb d_E_isAnyDue_8 (by decide) (fun c_8 => ?_) (fun c_8 => ?_)
  · have hge : j = 16 := by
      have := (nI_leI (a := 16) (by decide) (by omega)).mp c_8
      omega
    refine lv_iconst (v := 0) hx hb d_E_isAnyDue_42 (by decide) ?_
    exact m_zret (v := 0) hx hb hr rfl hm (⟨bv0 (fun h => by
      obtain ⟨t, h1, h2⟩ := h
      exact hI.2.2 t (by omega) h2), rfl⟩) d_E_isAnyDue_43 hlocks
  · have hj16 : j < 16 := (nI_ltI (b := 16) (by omega) (by decide)).mp (Int32.not_le.mp c_8)
    refine lv_aload_n hx hb d_E_isAnyDue_11 rfl (lv_at hl 0 rfl) ?_
    refine m_get (v := .ref (ad 4)) (C := R_E) (T := T_E) (N := 8) hx hb hT in_E hown hC.1 hm 0 rfl ((congrFun hG 0).trans gE_c0) rfl 4 (by decide) (hT _ k_91) (fun _ h9 => h9) rfl d_E_isAnyDue_12 ?_
    refine lv_iload_n hx hb d_E_isAnyDue_15 rfl (lv_at hl 3 rfl) ?_
    by_cases htc : j < oc
    · refine m_aald (v := .ref (ad (400 + j))) hx hb hC.1 hm 4 rfl 5 ((congrFun hG 4).trans gE_c4) rfl (vp_in_nI (by omega) (by decide)) (by rw [nI_clamp (by omega)]; simp only [htc, if_true]; rfl) d_E_isAnyDue_16 ?_
      refine lv_astore (lv' := [(4, .ref (ad (400 + j))), (0, .ref (ad 0)), (1, .int p0), (2, .int p1), (3, .int (nI j))]) hx hb d_E_isAnyDue_17 hl (by decide) rfl (fun ls hl => ?_)
      refine lv_aload hx hb d_E_isAnyDue_19 (lv_at hl 0 rfl) ?_
      refine lv_ifnull hx hb d_E_isAnyDue_21 ?_
      refine lv_aload hx hb d_E_isAnyDue_24 (lv_at hl 0 rfl) ?_
      refine lv_iload_n hx hb d_E_isAnyDue_26 rfl (lv_at hl 2 rfl) ?_
      refine lv_iload_n hx hb d_E_isAnyDue_27 rfl (lv_at hl 3 rfl) ?_
      refine m_roi (m_runV (As := [.int p0, .int p1]) (rest := []) ⟨hx, hb, hml, hown, hts⟩ (c_Or_isDue l D dA ad G H.size (400 + j) (I 11 j) (I 12 j) (I 13 j) p0 p1 ((congrFun hG (400 + j)).trans (gE_od htc ht ho))) (cwV 2 hts (gV k_564 k_561 k_562 k_563 k_15) rfl rfl rfl (by decide +kernel) ⟨Nat.le_of_ble_eq_true rfl, Nat.le_of_ble_eq_true rfl⟩) hm hA hC (400 + j) rfl ((congrFun hG (400 + j)).trans (gE_od htc ht ho)) rfl rfl rfl hl.1 rfl (Nat.le_of_ble_eq_true rfl) d_E_isAnyDue_28 ⟨Nat.le_of_ble_eq_true rfl, Nat.le_of_ble_eq_true rfl⟩) hm hA (fun r_1 H locs w_2 hm => ?_)
      refine lv_if_eq (tgt := 36) hx hb d_E_isAnyDue_31 (by decide) (fun c_31 => ?_) (fun c_31 => ?_)
      · have hP : ¬ eDu I oc p0 p1 j = true := fun h => by
          have h8 := of_decide_eq_true h
          have h9 := w_2
          rw [if_pos h8.2] at h9
          rw [h9] at c_31
          exact absurd c_31 (by decide)
        refine lv_iinc (v := nI (j + 1)) (lv' := [(3, .int (nI (j + 1))), (4, .ref (ad (400 + j))), (0, .ref (ad 0)), (1, .int p0), (2, .int p1)]) hx hb d_E_isAnyDue_36 hl (k := 4) rfl (nI_1 _) (by decide) rfl (fun ls hl => ?_)
        refine lv_goto (tgt := 2) hx hb d_E_isAnyDue_39 (by decide) ?_
        exact ih2 (j + 1) ls H locs (⟨by omega, by omega, fun t h9 => (Nat.lt_succ_iff_lt_or_eq.mp h9).elim (fun q => hI.2.2 t q) (fun q => by rw [q]; exact hP)⟩) (lv_sub hl [2, 3, 4, 0] rfl) hm
      · refine lv_iconst (v := 1) hx hb d_E_isAnyDue_34 (by decide) ?_
        exact m_zret (v := 1) hx hb hr rfl hm (⟨bv1 ⟨j, htc, decide_eq_true (Classical.byContradiction (fun hq => c_31 (by rw [w_2, if_neg (fun h => hq ⟨htc, h⟩)])))⟩, rfl⟩) d_E_isAnyDue_35 hlocks
    · refine m_aald (v := .null) hx hb hC.1 hm 4 rfl 5 ((congrFun hG 4).trans gE_c4) rfl (vp_in_nI (by omega) (by decide)) (by rw [nI_clamp (by omega)]; simp only [htc, if_false]; rfl) d_E_isAnyDue_16 ?_
      refine lv_astoreN (lv' := [(4, .null), (0, .ref (ad 0)), (1, .int p0), (2, .int p1), (3, .int (nI j))]) hx hb d_E_isAnyDue_17 hl (by decide) rfl (fun ls hl => ?_)
      refine lv_aloadN hx hb d_E_isAnyDue_19 (lv_at hl 0 rfl) ?_
      refine lv_ifnullN (tgt := 36) hx hb d_E_isAnyDue_21 (by decide) ?_
      have hP : ¬ eDu I oc p0 p1 j = true := fun h => htc (of_decide_eq_true h).1
      refine lv_iinc (v := nI (j + 1)) (lv' := [(3, .int (nI (j + 1))), (4, .null), (0, .ref (ad 0)), (1, .int p0), (2, .int p1)]) hx hb d_E_isAnyDue_36 hl (k := 4) rfl (nI_1 _) (by decide) rfl (fun ls hl => ?_)
      refine lv_goto (tgt := 2) hx hb d_E_isAnyDue_39 (by decide) ?_
      exact ih2 (j + 1) ls H locs (⟨by omega, by omega, fun t h9 => (Nat.lt_succ_iff_lt_or_eq.mp h9).elim (fun q => hI.2.2 t q) (fun q => by rw [q]; exact hP)⟩) (lv_sub hl [2, 3, 4, 0] rfl) hm

set_option maxHeartbeats 4000000 in
set_option maxRecDepth 100000 in
theorem c_E_open (l : Launch) (D : va_G) (dA : Nat → ClassId) (ad : Nat → Nat) (G : mG) (sz : Nat) (I : Nat → Nat → Int32) (J : Nat → Nat → Int64) (F : Nat → Nat → Nat → Int32) (si : Nat → Nat) (tc oc : Nat) (G0 : mG) (hG : G = gE dA ad I J F si tc oc G0) (ht : tc ≤ 12) (ho : oc ≤ 16) : Met l y_E_open (.code y_E_open b_E_open 4 (some .int) :: mBig) ({ frames := 0, cells := 0, slots := 0, locals := 0 }) (mPc [.ref (ad 0)] D mCl (mTys dA) mTx ad G sz) (mQi (fun (rv : Int32) (u : mU) => (rv = nI (eCnt (eOp I oc) 16)) ∧ u = (ad, G)) D mCl ad G sz) 0 0 (mA ad G sz) := by
  refine Met.ofW (cc := b_E_open) (maxL := 4) (ret := (some .int)) (by decide) rfl ?_
  intro p e s m args below meth c s₁ B hml hv
  obtain ⟨rfl, hsz, hw0, hC⟩ := hv
  have hx := B.exec
  have hb := B.bytes
  have hr := B.returns
  have hts := atoms_spec (ws := .code y_E_open b_E_open 4 (some .int) :: mBig) B.pre
  have hT : ∀ w ∈ mBig, w.before _ s = true := fun w h => hts w (List.mem_cons_of_mem _ h)
  have hown : s.vm.findClass "EdgeWear" = some m.cls := findClass_of_methodNamed B.named
  have hlocks := B.notSynchronized
  subst hsz
  have hm := mS.start hw0
  have hA : ∀ q : Nat, s.heap.size ≤ q → mA ad G s.heap.size q := fun q h => Or.inr h
  have hl := lv_entry ([.ref (ad 0)]) (n := 4) (Nat.le_of_ble_eq_true rfl)
  rw [lg_entry_eq]
  generalize (lg_sl ([.ref (ad 0)]) ++ List.replicate (4 - (lg_sl ([.ref (ad 0)])).length) Slot.unset).toArray = ls at hl ⊢
  have hl : lv_has ls 4 [(0, .ref (ad 0))] := hl
  refine lv_iconst (v := 0) hx hb d_E_open_0 (by decide) ?_
  refine lv_istore_n (lv' := [(1, .int 0), (0, .ref (ad 0))]) hx hb d_E_open_1 rfl hl (by decide) rfl (fun ls hl => ?_)
  refine lv_iconst (v := 0) hx hb d_E_open_2 (by decide) ?_
  refine lv_istore_n (lv' := [(2, .int 0), (1, .int 0), (0, .ref (ad 0))]) hx hb d_E_open_3 rfl hl (by decide) rfl (fun ls hl => ?_)
  refine m_loopH (nL := 4) (head := 4) (fun (q9 : Nat) => fun (x : Nat) => match x with | j => q9 + j = 17 ∧ j ≤ 16 ∧ True) (fun (x : Nat) => match x with | j => [(0, .ref (ad 0)), (1, .int (nI (eCnt (eOp I oc) j))), (2, .int (nI j))]) (fun _ => G) (fun j h => by have h1 := h.1; have h2 := h.2.1; omega) (fun q9 x ls H locs hI hl hm ih4 => ?_) (16) (0) (⟨by omega, by omega, trivial⟩) (lv_sub hl [2, 1, 0] rfl) hm
  obtain ⟨j, ej⟩ : ∃ z, z = x := ⟨_, rfl⟩
  subst ej
  replace hI : (fun (q9 : Nat) => q9 + j = 17 ∧ j ≤ 16 ∧ True) (q9 + 1) := hI
  have hl : lv_has ls 4 [(0, .ref (ad 0)), (1, .int (nI (eCnt (eOp I oc) j))), (2, .int (nI j))] := hl
  refine lv_iload_n hx hb d_E_open_4 rfl (lv_at hl 2 rfl) ?_
  refine lv_aload_n hx hb d_E_open_5 rfl (lv_at hl 0 rfl) ?_
  refine m_get (v := .ref (ad 4)) (C := R_E) (T := T_E) (N := 8) hx hb hT in_E hown hC.1 hm 0 rfl ((congrFun hG 0).trans gE_c0) rfl 4 (by decide) (hT _ k_91) (fun _ h9 => h9) rfl d_E_open_6 ?_
  refine m_alen (v := 16) hx hb hC.1 hm 4 rfl 5 ((congrFun hG 4).trans gE_c4) rfl rfl d_E_open_9 ?_
  refine lv_icmp_ge (tgt := 40) hx hb d_E_open_10 (by decide) (fun c_10 => ?_) (fun c_10 => ?_)
  · have hge : j = 16 := by
      have := (nI_leI (a := 16) (by decide) (by omega)).mp c_10
      omega
    refine lv_iload_n hx hb d_E_open_40 rfl (lv_at hl 1 rfl) ?_
    exact m_iret (v := nI (eCnt (eOp I oc) j)) hx hb hr hm (⟨by rw [hge], rfl⟩) d_E_open_41 hlocks
  · have hj16 : j < 16 := (nI_ltI (b := 16) (by omega) (by decide)).mp (Int32.not_le.mp c_10)
    refine lv_aload_n hx hb d_E_open_13 rfl (lv_at hl 0 rfl) ?_
    refine m_get (v := .ref (ad 4)) (C := R_E) (T := T_E) (N := 8) hx hb hT in_E hown hC.1 hm 0 rfl ((congrFun hG 0).trans gE_c0) rfl 4 (by decide) (hT _ k_91) (fun _ h9 => h9) rfl d_E_open_14 ?_
    refine lv_iload_n hx hb d_E_open_17 rfl (lv_at hl 2 rfl) ?_
    by_cases htc : j < oc
    · refine m_aald (v := .ref (ad (400 + j))) hx hb hC.1 hm 4 rfl 5 ((congrFun hG 4).trans gE_c4) rfl (vp_in_nI (by omega) (by decide)) (by rw [nI_clamp (by omega)]; simp only [htc, if_true]; rfl) d_E_open_18 ?_
      refine lv_astore_n (lv' := [(3, .ref (ad (400 + j))), (0, .ref (ad 0)), (1, .int (nI (eCnt (eOp I oc) j))), (2, .int (nI j))]) hx hb d_E_open_19 rfl hl (by decide) rfl (fun ls hl => ?_)
      refine lv_aload_n hx hb d_E_open_20 rfl (lv_at hl 0 rfl) ?_
      refine lv_ifnull hx hb d_E_open_21 ?_
      refine lv_aload_n hx hb d_E_open_24 rfl (lv_at hl 0 rfl) ?_
      refine m_get (v := .int (I 13 j)) (C := R_Or) (T := T_Or) (N := 3) hx hb hT in_Or hown hC.1 hm (400 + j) rfl ((congrFun hG (400 + j)).trans (gE_od htc ht ho)) rfl 2 (by decide) (hT _ k_542) (fun _ h9 => h9) rfl d_E_open_25 ?_
      refine lv_if_ne (tgt := 34) hx hb d_E_open_28 (by decide) (fun c_28 => ?_) (fun c_28 => ?_)
      · have hP : ¬ eOp I oc j = true := fun h => c_28 (of_decide_eq_true h).2
        have hl : lv_has ls 4 [(3, .ref (ad (400 + j))), (0, .ref (ad 0)), (1, .int (nI (eCnt (eOp I oc) (j + 1)))), (2, .int (nI j))] := by rw [eCnt_neg hP]; exact hl
        refine lv_iinc (v := nI (j + 1)) (lv' := [(2, .int (nI (j + 1))), (3, .ref (ad (400 + j))), (0, .ref (ad 0)), (1, .int (nI (eCnt (eOp I oc) (j + 1))))]) hx hb d_E_open_34 hl (k := 3) rfl (nI_1 _) (by decide) rfl (fun ls hl => ?_)
        refine lv_goto (tgt := 4) hx hb d_E_open_37 (by decide) ?_
        exact ih4 (j + 1) ls H locs (⟨by omega, by omega, trivial⟩) (lv_sub hl [2, 3, 0] rfl) hm
      · refine lv_iinc (v := nI ((eCnt (eOp I oc) j) + 1)) (lv' := [(1, .int (nI ((eCnt (eOp I oc) j) + 1))), (3, .ref (ad (400 + j))), (0, .ref (ad 0)), (2, .int (nI j))]) hx hb d_E_open_31 hl (k := 2) rfl (nI_1 _) (by decide) rfl (fun ls hl => ?_)
        have hP : eOp I oc j = true := decide_eq_true ⟨htc, c_28⟩
        have hl : lv_has ls 4 [(1, .int (nI (eCnt (eOp I oc) (j + 1)))), (3, .ref (ad (400 + j))), (0, .ref (ad 0)), (2, .int (nI j))] := by rw [eCnt_pos hP]; exact hl
        refine lv_iinc (v := nI (j + 1)) (lv' := [(2, .int (nI (j + 1))), (1, .int (nI (eCnt (eOp I oc) (j + 1)))), (3, .ref (ad (400 + j))), (0, .ref (ad 0))]) hx hb d_E_open_34 hl (k := 3) rfl (nI_1 _) (by decide) rfl (fun ls hl => ?_)
        refine lv_goto (tgt := 4) hx hb d_E_open_37 (by decide) ?_
        exact ih4 (j + 1) ls H locs (⟨by omega, by omega, trivial⟩) (lv_sub hl [3, 1, 0] rfl) hm
    · refine m_aald (v := .null) hx hb hC.1 hm 4 rfl 5 ((congrFun hG 4).trans gE_c4) rfl (vp_in_nI (by omega) (by decide)) (by rw [nI_clamp (by omega)]; simp only [htc, if_false]; rfl) d_E_open_18 ?_
      refine lv_astore_nN (lv' := [(3, .null), (0, .ref (ad 0)), (1, .int (nI (eCnt (eOp I oc) j))), (2, .int (nI j))]) hx hb d_E_open_19 rfl hl (by decide) rfl (fun ls hl => ?_)
      refine lv_aload_nN hx hb d_E_open_20 rfl (lv_at hl 0 rfl) ?_
      refine lv_ifnullN (tgt := 34) hx hb d_E_open_21 (by decide) ?_
      have hP : ¬ eOp I oc j = true := fun h => htc (of_decide_eq_true h).1
      have hl : lv_has ls 4 [(3, .null), (0, .ref (ad 0)), (1, .int (nI (eCnt (eOp I oc) (j + 1)))), (2, .int (nI j))] := by rw [eCnt_neg hP]; exact hl
      refine lv_iinc (v := nI (j + 1)) (lv' := [(2, .int (nI (j + 1))), (3, .null), (0, .ref (ad 0)), (1, .int (nI (eCnt (eOp I oc) (j + 1))))]) hx hb d_E_open_34 hl (k := 3) rfl (nI_1 _) (by decide) rfl (fun ls hl => ?_)
      refine lv_goto (tgt := 4) hx hb d_E_open_37 (by decide) ?_
      exact ih4 (j + 1) ls H locs (⟨by omega, by omega, trivial⟩) (lv_sub hl [2, 3, 0] rfl) hm

set_option maxHeartbeats 4000000 in
set_option maxRecDepth 100000 in
theorem c_E_closeDue (l : Launch) (D : va_G) (dA : Nat → ClassId) (ad : Nat → Nat) (G : mG) (sz : Nat) (I : Nat → Nat → Int32) (J : Nat → Nat → Int64) (F : Nat → Nat → Nat → Int32) (si : Nat → Nat) (tc oc : Nat) (G0 : mG) (hG : G = gE dA ad I J F si tc oc G0) (ht : tc ≤ 12) (ho : oc ≤ 16) (p0 p1 : Int32) : Met l y_E_closeDue (.code y_E_closeDue b_E_closeDue 6 (some .int) :: mBig) ({ frames := 1, cells := 0, slots := 0, locals := 22 }) (mPc [.ref (ad 0), .int p0, .int p1] D mCl (mTys dA) mTx ad G sz) (mQi (fun (rv : Int32) (u : mU) => (rv = nI (eCnt (eDu I oc p0 p1) 16) ∧ u = (ad, gE dA ad (eCl I oc p0 p1 16) J F si tc oc G0))) D mCl ad G sz) 0 0 (mA ad G sz) := by
  refine Met.ofW (cc := b_E_closeDue) (maxL := 6) (ret := (some .int)) (by decide) rfl ?_
  intro p e s m args below meth c s₁ B hml hv
  obtain ⟨rfl, hsz, hw0, hC⟩ := hv
  have hx := B.exec
  have hb := B.bytes
  have hr := B.returns
  have hts := atoms_spec (ws := .code y_E_closeDue b_E_closeDue 6 (some .int) :: mBig) B.pre
  have hT : ∀ w ∈ mBig, w.before _ s = true := fun w h => hts w (List.mem_cons_of_mem _ h)
  have hown : s.vm.findClass "EdgeWear" = some m.cls := findClass_of_methodNamed B.named
  have hlocks := B.notSynchronized
  subst hsz
  have hm := mS.start hw0
  have hA : ∀ q : Nat, s.heap.size ≤ q → mA ad G s.heap.size q := fun q h => Or.inr h
  have hl := lv_entry ([.ref (ad 0), .int p0, .int p1]) (n := 6) (Nat.le_of_ble_eq_true rfl)
  rw [lg_entry_eq]
  generalize (lg_sl ([.ref (ad 0), .int p0, .int p1]) ++ List.replicate (6 - (lg_sl ([.ref (ad 0), .int p0, .int p1])).length) Slot.unset).toArray = ls at hl ⊢
  have hl : lv_has ls 6 [(0, .ref (ad 0)), (1, .int p0), (2, .int p1)] := hl
  have hm : mS D mCl (mA ad G s.heap.size) s.heap ad (gE dA ad I J F si tc oc G0) s.heap [] := by rw [← hG]; exact hm
  refine lv_iconst (v := 0) hx hb d_E_closeDue_0 (by decide) ?_
  refine lv_istore_n (lv' := [(3, .int 0), (0, .ref (ad 0)), (1, .int p0), (2, .int p1)]) hx hb d_E_closeDue_1 rfl hl (by decide) rfl (fun ls hl => ?_)
  refine lv_iconst (v := 0) hx hb d_E_closeDue_2 (by decide) ?_
  refine lv_istore (lv' := [(4, .int 0), (3, .int 0), (0, .ref (ad 0)), (1, .int p0), (2, .int p1)]) hx hb d_E_closeDue_3 hl (by decide) rfl (fun ls hl => ?_)
  refine m_loopH (nL := 6) (head := 5) (fun (q9 : Nat) => fun (x : Nat) => match x with | j => q9 + j = 17 ∧ j ≤ 16 ∧ True) (fun (x : Nat) => match x with | j => [(0, .ref (ad 0)), (1, .int p0), (2, .int p1), (3, .int (nI (eCnt (eDu I oc p0 p1) j))), (4, .int (nI j))]) (fun (x : Nat) => match x with | j => gE dA ad (eCl I oc p0 p1 j) J F si tc oc G0) (fun j h => by have h1 := h.1; have h2 := h.2.1; omega) (fun q9 x ls H locs hI hl hm ih5 => ?_) (16) (0) (⟨by omega, by omega, trivial⟩) (lv_sub hl [2, 3, 4, 1, 0] rfl) hm
  obtain ⟨j, ej⟩ : ∃ z, z = x := ⟨_, rfl⟩
  subst ej
  replace hI : (fun (q9 : Nat) => q9 + j = 17 ∧ j ≤ 16 ∧ True) (q9 + 1) := hI
  have hl : lv_has ls 6 [(0, .ref (ad 0)), (1, .int p0), (2, .int p1), (3, .int (nI (eCnt (eDu I oc p0 p1) j))), (4, .int (nI j))] := hl
  obtain ⟨Gj, hG⟩ : ∃ z : mG, z = gE dA ad (eCl I oc p0 p1 j) J F si tc oc G0 := ⟨_, rfl⟩
  have hm : mS D mCl (mA ad G s.heap.size) s.heap ad Gj H locs := by rw [hG]; exact hm
  refine lv_iload hx hb d_E_closeDue_5 (lv_at hl 4 rfl) ?_
  refine lv_aload_n hx hb d_E_closeDue_7 rfl (lv_at hl 0 rfl) ?_
  refine m_get (v := .ref (ad 4)) (C := R_E) (T := T_E) (N := 8) hx hb hT in_E hown hC.1 hm 0 rfl ((congrFun hG 0).trans gE_c0) rfl 4 (by decide) (hT _ k_91) (fun _ h9 => h9) rfl d_E_closeDue_8 ?_
  refine m_alen (v := 16) hx hb hC.1 hm 4 rfl 5 ((congrFun hG 4).trans gE_c4) rfl rfl d_E_closeDue_11 ?_
  refine lv_icmp_ge (tgt := 54) hx hb d_E_closeDue_12 (by decide) (fun c_12 => ?_) (fun c_12 => ?_)
  · have hge : j = 16 := by
      have := (nI_leI (a := 16) (by decide) (by omega)).mp c_12
      omega
    rw [hG] at hm
    refine lv_iload_n hx hb d_E_closeDue_54 rfl (lv_at hl 3 rfl) ?_
    exact m_iret (v := nI (eCnt (eDu I oc p0 p1) j)) hx hb hr hm (⟨by rw [hge], by rw [hge]⟩) d_E_closeDue_55 hlocks
  · have hj16 : j < 16 := (nI_ltI (b := 16) (by omega) (by decide)).mp (Int32.not_le.mp c_12)
    refine lv_aload_n hx hb d_E_closeDue_15 rfl (lv_at hl 0 rfl) ?_
    refine m_get (v := .ref (ad 4)) (C := R_E) (T := T_E) (N := 8) hx hb hT in_E hown hC.1 hm 0 rfl ((congrFun hG 0).trans gE_c0) rfl 4 (by decide) (hT _ k_91) (fun _ h9 => h9) rfl d_E_closeDue_16 ?_
    refine lv_iload hx hb d_E_closeDue_19 (lv_at hl 4 rfl) ?_
    by_cases htc : j < oc
    · have z11 : eCl I oc p0 p1 j 11 j = I 11 j := eCl_ne (Or.inr (Nat.le_refl j))
      have z12 : eCl I oc p0 p1 j 12 j = I 12 j := eCl_ne (Or.inr (Nat.le_refl j))
      have z13 : eCl I oc p0 p1 j 13 j = I 13 j := eCl_ne (Or.inr (Nat.le_refl j))
      have hgo : Gj (400 + j) = some (.inr (0, [.int (I 11 j), .int (I 12 j), .int (I 13 j)])) := by
        rw [hG, gE_od htc ht ho, z11, z12, z13]
      refine m_aald (v := .ref (ad (400 + j))) hx hb hC.1 hm 4 rfl 5 ((congrFun hG 4).trans gE_c4) rfl (vp_in_nI (by omega) (by decide)) (by rw [nI_clamp (by omega)]; simp only [htc, if_true]; rfl) d_E_closeDue_21 ?_
      refine lv_astore (lv' := [(5, .ref (ad (400 + j))), (0, .ref (ad 0)), (1, .int p0), (2, .int p1), (3, .int (nI (eCnt (eDu I oc p0 p1) j))), (4, .int (nI j))]) hx hb d_E_closeDue_22 hl (by decide) rfl (fun ls hl => ?_)
      refine lv_aload hx hb d_E_closeDue_24 (lv_at hl 0 rfl) ?_
      refine lv_ifnull hx hb d_E_closeDue_26 ?_
      refine lv_aload hx hb d_E_closeDue_29 (lv_at hl 0 rfl) ?_
      refine lv_iload_n hx hb d_E_closeDue_31 rfl (lv_at hl 2 rfl) ?_
      refine lv_iload_n hx hb d_E_closeDue_32 rfl (lv_at hl 3 rfl) ?_
      refine m_roi (m_runV (As := [.int p0, .int p1]) (rest := []) ⟨hx, hb, hml, hown, hts⟩ (c_Or_isDue l D dA ad Gj H.size (400 + j) (I 11 j) (I 12 j) (I 13 j) p0 p1 (hgo)) (cwV 2 hts (gV k_564 k_561 k_562 k_563 k_15) rfl rfl rfl (by decide +kernel) ⟨Nat.le_of_ble_eq_true rfl, Nat.le_of_ble_eq_true rfl⟩) hm hA hC (400 + j) rfl hgo rfl rfl rfl hl.1 rfl (Nat.le_of_ble_eq_true rfl) d_E_closeDue_33 ⟨Nat.le_of_ble_eq_true rfl, Nat.le_of_ble_eq_true rfl⟩) hm hA (fun r_1 H locs w_2 hm => ?_)
      refine lv_if_eq (tgt := 48) hx hb d_E_closeDue_36 (by decide) (fun c_36 => ?_) (fun c_36 => ?_)
      · have hP : ¬ eDu I oc p0 p1 j = true := fun h => by
          have h8 := of_decide_eq_true h
          have h9 := w_2
          rw [if_pos h8.2] at h9
          rw [h9] at c_36
          exact absurd c_36 (by decide)
        have hm : mS D mCl (mA ad G s.heap.size) s.heap ad (gE dA ad (eCl I oc p0 p1 (j + 1)) J F si tc oc G0) H locs := by
          rw [show eCl I oc p0 p1 (j + 1) = eCl I oc p0 p1 j from if_neg hP, ← hG]
          exact hm
        have hl : lv_has ls 6 [(5, .ref (ad (400 + j))), (0, .ref (ad 0)), (1, .int p0), (2, .int p1), (3, .int (nI (eCnt (eDu I oc p0 p1) (j + 1)))), (4, .int (nI j))] := by rw [eCnt_neg hP]; exact hl
        refine lv_iinc (v := nI (j + 1)) (lv' := [(4, .int (nI (j + 1))), (5, .ref (ad (400 + j))), (0, .ref (ad 0)), (1, .int p0), (2, .int p1), (3, .int (nI (eCnt (eDu I oc p0 p1) (j + 1))))]) hx hb d_E_closeDue_48 hl (k := 5) rfl (nI_1 _) (by decide) rfl (fun ls hl => ?_)
        refine lv_goto (tgt := 5) hx hb d_E_closeDue_51 (by decide) ?_
        exact ih5 (j + 1) ls H locs (⟨by omega, by omega, trivial⟩) (lv_sub hl [2, 3, 4, 5, 0] rfl) hm
      · refine lv_aload hx hb d_E_closeDue_39 (lv_at hl 0 rfl) ?_
        refine lv_iconst (v := 1) hx hb d_E_closeDue_41 (by decide) ?_
        refine m_put (v := .int 1) (ty := .boolean) (C := R_Or) (T := T_Or) (N := 3) hx hb hT in_Or t_Or tok_Or nm_Or hown hC.1 hm (400 + j) rfl hgo rfl 2 (by decide) (hT _ k_542) (fun _ h9 => h9) rfl (by decide +kernel) rfl rfl (Nat.le_of_ble_eq_true rfl) d_E_closeDue_42 (fun H locs hm => ?_)
        obtain ⟨G_3, eG_3⟩ : ∃ z : mG, z = va_up Gj (400 + j) (some (.inr (0, [.int (I 11 j), .int (I 12 j), .int 1]))) := ⟨_, rfl⟩
        have hm : mS D mCl (mA ad G s.heap.size) s.heap ad G_3 H locs := by rw [eG_3]; exact hm
        have g_4 := (congrFun eG_3 0).trans ((va_up_ne _ _ (by omega)).trans ((congrFun hG 0).trans gE_c0))
        have g_5 := (congrFun eG_3 1).trans ((va_up_ne _ _ (by omega)).trans ((congrFun hG 1).trans gE_c1))
        have g_6 := (congrFun eG_3 2).trans ((va_up_ne _ _ (by omega)).trans ((congrFun hG 2).trans gE_c2))
        have g_7 := (congrFun eG_3 3).trans ((va_up_ne _ _ (by omega)).trans ((congrFun hG 3).trans gE_c3))
        have g_8 := (congrFun eG_3 4).trans ((va_up_ne _ _ (by omega)).trans ((congrFun hG 4).trans gE_c4))
        have g_9 := (congrFun eG_3 5).trans ((va_up_ne _ _ (by omega)).trans ((congrFun hG 5).trans gE_c5))
        have g_10 : G_3 (400 + j) = some (.inr (0, [.int (I 11 j), .int (I 12 j), .int 1])) := by rw [eG_3, va_up_self]
        refine lv_iinc (v := nI ((eCnt (eDu I oc p0 p1) j) + 1)) (lv' := [(3, .int (nI ((eCnt (eDu I oc p0 p1) j) + 1))), (5, .ref (ad (400 + j))), (0, .ref (ad 0)), (1, .int p0), (2, .int p1), (4, .int (nI j))]) hx hb d_E_closeDue_45 hl (k := 4) rfl (nI_1 _) (by decide) rfl (fun ls hl => ?_)
        have hP : eDu I oc p0 p1 j = true := decide_eq_true (Classical.byContradiction (fun hq => c_36 (by rw [w_2, if_neg (fun h => hq ⟨htc, h⟩)])))
        have hm : mS D mCl (mA ad G s.heap.size) s.heap ad (gE dA ad (eCl I oc p0 p1 (j + 1)) J F si tc oc G0) H locs := by
          have h9 : G_3 = gE dA ad (eCl I oc p0 p1 (j + 1)) J F si tc oc G0 := by
            rw [eG_3, hG, ← z11, ← z12, gE_uorder htc ht ho]
            rw [show eCl I oc p0 p1 (j + 1) = up2 (eCl I oc p0 p1 j) 13 j 1 from if_pos hP]
          rw [← h9]
          exact hm
        have hl : lv_has ls 6 [(3, .int (nI (eCnt (eDu I oc p0 p1) (j + 1)))), (5, .ref (ad (400 + j))), (0, .ref (ad 0)), (1, .int p0), (2, .int p1), (4, .int (nI j))] := by rw [eCnt_pos hP]; exact hl
        refine lv_iinc (v := nI (j + 1)) (lv' := [(4, .int (nI (j + 1))), (3, .int (nI (eCnt (eDu I oc p0 p1) (j + 1)))), (5, .ref (ad (400 + j))), (0, .ref (ad 0)), (1, .int p0), (2, .int p1)]) hx hb d_E_closeDue_48 hl (k := 5) rfl (nI_1 _) (by decide) rfl (fun ls hl => ?_)
        refine lv_goto (tgt := 5) hx hb d_E_closeDue_51 (by decide) ?_
        exact ih5 (j + 1) ls H locs (⟨by omega, by omega, trivial⟩) (lv_sub hl [3, 4, 5, 1, 0] rfl) hm
    · refine m_aald (v := .null) hx hb hC.1 hm 4 rfl 5 ((congrFun hG 4).trans gE_c4) rfl (vp_in_nI (by omega) (by decide)) (by rw [nI_clamp (by omega)]; simp only [htc, if_false]; rfl) d_E_closeDue_21 ?_
      refine lv_astoreN (lv' := [(5, .null), (0, .ref (ad 0)), (1, .int p0), (2, .int p1), (3, .int (nI (eCnt (eDu I oc p0 p1) j))), (4, .int (nI j))]) hx hb d_E_closeDue_22 hl (by decide) rfl (fun ls hl => ?_)
      refine lv_aloadN hx hb d_E_closeDue_24 (lv_at hl 0 rfl) ?_
      refine lv_ifnullN (tgt := 48) hx hb d_E_closeDue_26 (by decide) ?_
      have hP : ¬ eDu I oc p0 p1 j = true := fun h => htc (of_decide_eq_true h).1
      have hm : mS D mCl (mA ad G s.heap.size) s.heap ad (gE dA ad (eCl I oc p0 p1 (j + 1)) J F si tc oc G0) H locs := by
        rw [show eCl I oc p0 p1 (j + 1) = eCl I oc p0 p1 j from if_neg hP, ← hG]
        exact hm
      have hl : lv_has ls 6 [(5, .null), (0, .ref (ad 0)), (1, .int p0), (2, .int p1), (3, .int (nI (eCnt (eDu I oc p0 p1) (j + 1)))), (4, .int (nI j))] := by rw [eCnt_neg hP]; exact hl
      refine lv_iinc (v := nI (j + 1)) (lv' := [(4, .int (nI (j + 1))), (5, .null), (0, .ref (ad 0)), (1, .int p0), (2, .int p1), (3, .int (nI (eCnt (eDu I oc p0 p1) (j + 1))))]) hx hb d_E_closeDue_48 hl (k := 5) rfl (nI_1 _) (by decide) rfl (fun ls hl => ?_)
      refine lv_goto (tgt := 5) hx hb d_E_closeDue_51 (by decide) ?_
      exact ih5 (j + 1) ls H locs (⟨by omega, by omega, trivial⟩) (lv_sub hl [2, 3, 4, 5, 0] rfl) hm
