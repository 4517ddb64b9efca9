set_option maxHeartbeats 4000000 in
set_option maxRecDepth 100000 in
theorem c_L_cost (l : Launch) (hlt : l.stackTraces = false) (D : va_G) (dA : Nat → ClassId) (ad : Nat → Nat) (G : mG) (sz : Nat) (I : Nat → Nat → Int32) (J : Nat → Nat → Int64) (F : Nat → Nat → Nat → Int32) (si : Nat → Nat) (tc oc : Nat) (G0 : mG) (hG : G = gE dA ad I J F si tc oc G0) (ht : tc ≤ 12) (p0 p1 p2 : Int32) (ho : oc ≤ 16) : Met l y_L_cost (.codeWith y_L_cost b_L_cost 5 (some .int) [(0, 7, 10, 13), (0, 7, 14, 15)] :: mBig) ({ frames := 8, cells := 2, slots := 12, locals := 128 }) (mPc [.ref (ad 0), .int p0, .int p1, .int p2] D mCl (mTys dA) mTx ad G sz) (mQi (fun (rv : Int32) (u : mU) => (∃ (ad1 : Nat → Nat) (x1 : eS), (∀ k, k = 0 ∨ 1000 ≤ k → ad1 k = ad k) ∧ u = (ad1, gEx dA ad1 x1 G0) ∧ R_L_cost I J F si tc oc p0 p1 p2 rv x1)) D mCl ad G sz) 2 12 (mA ad G sz) := by
  refine va_MetW (cc := b_L_cost) (maxL := 5) (ret := (some .int)) (hh := [(0, 7, 10, 13), (0, 7, 14, 15)]) (by decide) rfl ?_
  intro p e s m args below meth c s₁ BB hml hv
  obtain ⟨rfl, hsz, hw0, hC⟩ := hv
  have hx := BB.exec
  have hb := BB.bytes
  have hr := BB.returns
  have hts := atoms_spec (ws := .codeWith y_L_cost b_L_cost 5 (some .int) [(0, 7, 10, 13), (0, 7, 14, 15)] :: mBig) BB.pre
  have hT : ∀ w ∈ mBig, w.before _ s = true := fun w h => hts w (List.mem_cons_of_mem _ h)
  have hown : s.vm.findClass "EdgeWearLaw" = some m.cls := findClass_of_methodNamed BB.named
  have htab := vx_table (x := y_L_cost) BB (hts _ List.mem_cons_self)
  have hlocks := BB.notSynchronized
  subst hsz
  have hm := mS.start hw0
  have hA : ∀ q : Nat, s.heap.size ≤ q → mA ad G s.heap.size q := fun q h => Or.inr h
  have hl := lv_entry ([.ref (ad 0), .int p0, .int p1, .int p2]) (n := 5) (Nat.le_of_ble_eq_true rfl)
  rw [lg_entry_eq]
  generalize (lg_sl ([.ref (ad 0), .int p0, .int p1, .int p2]) ++ List.replicate (5 - (lg_sl ([.ref (ad 0), .int p0, .int p1, .int p2])).length) Slot.unset).toArray = ls at hl ⊢
  have hl : lv_has ls 5 [(0, .ref (ad 0)), (1, .int p0), (2, .int p1), (3, .int p2)] := hl
  refine lv_aload_n hx hb d_L_cost_0 rfl (lv_at hl 0 rfl) ?_
  refine lv_iload_n hx hb d_L_cost_1 rfl (lv_at hl 1 rfl) ?_
  refine lv_iload_n hx hb d_L_cost_2 rfl (lv_at hl 2 rfl) ?_
  refine lv_iload_n hx hb d_L_cost_3 rfl (lv_at hl 3 rfl) ?_
  refine x_callv (x_runV (As := [.int p0, .int p1, .int p2]) (rest := []) ⟨hx, hb, hml, hown, hts⟩ (c_E_cost l hlt D dA ad G s.heap.size I J F si tc oc G0 hG ht p0 p1 p2) (cwV 3 hts (gV k_409 k_406 k_407 k_408 k_1) rfl rfl rfl (by decide +kernel) ⟨Nat.le_of_ble_eq_true rfl, Nat.le_of_ble_eq_true rfl⟩) hm hA hC 0 rfl ((congrFun hG 0).trans gE_c0) rfl rfl rfl hl.1 rfl (Nat.le_of_ble_eq_true rfl) d_L_cost_4 ⟨Nat.le_of_ble_eq_true rfl, Nat.le_of_ble_eq_true rfl⟩) hm hA (fun E ce q9 ad_4 G_3 H locs w_2 hm h7 h8 h9 => ?_) (fun ad_4 G_3 H locs w_2 hm => ?_)
  · obtain ⟨hpx, hu9⟩ := w_2
    obtain ⟨ea9, eg9⟩ := Prod.mk.inj hu9
    rw [ea9, eg9] at hm
    rcases hpx with ⟨rfl, hq⟩ | ⟨rfl, hq⟩
    · refine vx_catch (own := "EdgeWearLaw") (name := "java/lang/IndexOutOfBoundsException") hown [] ⟨0, 7, 10, 13⟩ [⟨0, 7, 14, 15⟩] (htab.trans rfl) (fun _ h => absurd h List.not_mem_nil) rfl (by decide) (hT _ k_122) (hC.2.2.2.use (w := .castable "java/lang/IndexOutOfBoundsException" "java/lang/IndexOutOfBoundsException") (by decide +kernel)) h7 h8 h9 ?_
      refine W.eq (g2 := F0 m 10 ls [.ref q9]) rfl ?_
      refine lv_astore (lv' := [(4, .ref q9), (0, .ref (ad 0)), (1, .int p0), (2, .int p1), (3, .int p2)]) hx hb d_L_cost_10 hl (by decide) rfl (fun ls hl => ?_)
      refine lv_iconst (v := 1) hx hb d_L_cost_12 (by decide) ?_
      exact m_iret (v := 1) hx hb hr hm (⟨ad, (I, J, F, si, tc, oc), fun _ _ => rfl, Prod.ext rfl hG, Or.inr (Or.inl ⟨rfl, hq, rfl⟩)⟩) d_L_cost_13 hlocks
    · refine vx_catch (own := "EdgeWearLaw") (name := "java/lang/IllegalArgumentException") hown [⟨0, 7, 10, 13⟩] ⟨0, 7, 14, 15⟩ [] (htab.trans rfl) (List.forall_mem_cons.mpr ⟨Or.inr ⟨by decide, "java/lang/IndexOutOfBoundsException", hT _ k_122, hC.2.2.2.2.2.1⟩, fun _ h => absurd h List.not_mem_nil⟩) rfl (by decide) (hT _ k_123) (hC.2.2.2.use (w := .castable "java/lang/IllegalArgumentException" "java/lang/IllegalArgumentException") (by decide +kernel)) h7 h8 h9 ?_
      refine W.eq (g2 := F0 m 14 ls [.ref q9]) rfl ?_
      refine lv_astore (lv' := [(4, .ref q9), (0, .ref (ad 0)), (1, .int p0), (2, .int p1), (3, .int p2)]) hx hb d_L_cost_14 hl (by decide) rfl (fun ls hl => ?_)
      refine lv_iconst (v := 2) hx hb d_L_cost_16 (by decide) ?_
      exact m_iret (v := 2) hx hb hr hm (⟨ad, (I, J, F, si, tc, oc), fun _ _ => rfl, Prod.ext rfl hG, Or.inr (Or.inr (⟨rfl, hq, rfl⟩))⟩) d_L_cost_17 hlocks
  · obtain ⟨x1, had, hu9, hrel⟩ := kE_cost ht ho w_2
    replace hu9 : G_3 = gEx dA ad_4 x1 G0 := hu9
    replace had : ∀ k, k = 0 ∨ 1000 ≤ k → ad_4 k = ad k := had
    refine lv_goto (tgt := 18) hx hb d_L_cost_7 (by decide) ?_
    refine lv_iconst (v := 0) hx hb d_L_cost_18 (by decide) ?_
    exact m_iret (v := 0) hx hb hr hm (⟨ad_4, x1, had, Prod.ext rfl hu9, Or.inl ⟨rfl, hrel⟩⟩) d_L_cost_19 hlocks

set_option maxHeartbeats 4000000 in
set_option maxRecDepth 100000 in
theorem c_L_change (l : Launch) (hlt : l.stackTraces = false) (D : va_G) (dA : Nat → ClassId) (ad : Nat → Nat) (G : mG) (sz : Nat) (I : Nat → Nat → Int32) (J : Nat → Nat → Int64) (F : Nat → Nat → Nat → Int32) (si : Nat → Nat) (tc oc : Nat) (G0 : mG) (hG : G = gE dA ad I J F si tc oc G0) (ht : tc ≤ 12) (hL : ∀ i, i < 4 → ∃ c, c ≤ 40 ∧ I 2 i = nI c) (p0 : Int32) (ho : oc ≤ 16) (f : Nat → Int64) (hO : G0 2000 = some (.inl (dA 1, 1, .inr (.inl f)))) : Met l y_L_change (.codeWith y_L_change b_L_change 4 (some .int) [(0, 9, 12, 13), (0, 9, 15, 17)] :: mBig) ({ frames := 8, cells := 2, slots := 12, locals := 126 }) (mPc [.ref (ad 0), .int p0, .ref (ad 2000)] D mCl (mTys dA) mTx ad G sz) (mQi (fun (rv : Int32) (u : mU) => (∃ (ad1 : Nat → Nat) (x1 : eS) (f1 : Nat → Int64), (∀ k, k = 0 ∨ 1000 ≤ k → ad1 k = ad k) ∧ u = (ad1, gEx dA ad1 x1 (va_up G0 2000 (some (.inl (dA 1, 1, .inr (.inl f1)))))) ∧ R_L_change I J F si tc oc p0 rv (f1 0) x1)) D mCl ad G sz) 2 12 (mA ad G sz) := by
  refine va_MetW (cc := b_L_change) (maxL := 4) (ret := (some .int)) (hh := [(0, 9, 12, 13), (0, 9, 15, 17)]) (by decide) rfl ?_
  intro p e s m args below meth c s₁ BB hml hv
  obtain ⟨rfl, hsz, hw0, hC⟩ := hv
  have hx := BB.exec
  have hb := BB.bytes
  have hr := BB.returns
  have hts := atoms_spec (ws := .codeWith y_L_change b_L_change 4 (some .int) [(0, 9, 12, 13), (0, 9, 15, 17)] :: mBig) BB.pre
  have hT : ∀ w ∈ mBig, w.before _ s = true := fun w h => hts w (List.mem_cons_of_mem _ h)
  have hown : s.vm.findClass "EdgeWearLaw" = some m.cls := findClass_of_methodNamed BB.named
  have htab := vx_table (x := y_L_change) BB (hts _ List.mem_cons_self)
  have hlocks := BB.notSynchronized
  subst hsz
  have hm := mS.start hw0
  have hA : ∀ q : Nat, s.heap.size ≤ q → mA ad G s.heap.size q := fun q h => Or.inr h
  have hl := lv_entry ([.ref (ad 0), .int p0, .ref (ad 2000)]) (n := 4) (Nat.le_of_ble_eq_true rfl)
  rw [lg_entry_eq]
  generalize (lg_sl ([.ref (ad 0), .int p0, .ref (ad 2000)]) ++ List.replicate (4 - (lg_sl ([.ref (ad 0), .int p0, .ref (ad 2000)])).length) Slot.unset).toArray = ls at hl ⊢
  have hl : lv_has ls 4 [(0, .ref (ad 0)), (1, .int p0), (2, .ref (ad 2000))] := hl
  refine lv_aload_n hx hb d_L_change_0 rfl (lv_at hl 2 rfl) ?_
  refine lv_iconst (v := 0) hx hb d_L_change_1 (by decide) ?_
  refine lv_aload_n hx hb d_L_change_2 rfl (lv_at hl 0 rfl) ?_
  refine lv_iload_n hx hb d_L_change_3 rfl (lv_at hl 1 rfl) ?_
  refine x_roi (x_runV (As := [.int p0]) (rest := [.int 0, .ref (ad 2000)]) ⟨hx, hb, hml, hown, hts⟩ (c_E_change l hlt D dA ad G s.heap.size I J F si tc oc G0 hG ht hL p0) (cwV 1 hts (gV k_417 k_414 k_415 k_416 k_1) rfl rfl rfl (by decide +kernel) ⟨Nat.le_of_ble_eq_true rfl, Nat.le_of_ble_eq_true rfl⟩) hm hA hC 0 rfl ((congrFun hG 0).trans gE_c0) rfl rfl rfl hl.1 rfl (Nat.le_of_ble_eq_true rfl) d_L_change_4 ⟨Nat.le_of_ble_eq_true rfl, Nat.le_of_ble_eq_true rfl⟩) hm hA (fun E ce q9 H locs w_2 hm h7 h8 h9 => ?_) (fun r_1 H locs w_2 hm => ?_)
  · have hpx := w_2
    rcases hpx with ⟨rfl, hq⟩ | ⟨rfl, hq⟩
    · refine vx_catch (own := "EdgeWearLaw") (name := "java/lang/IndexOutOfBoundsException") hown [] ⟨0, 9, 12, 13⟩ [⟨0, 9, 15, 17⟩] (htab.trans rfl) (fun _ h => absurd h List.not_mem_nil) rfl (by decide) (hT _ k_122) (hC.2.2.2.use (w := .castable "java/lang/IndexOutOfBoundsException" "java/lang/IndexOutOfBoundsException") (by decide +kernel)) h7 h8 h9 ?_
      refine W.eq (g2 := F0 m 12 ls [.ref q9]) rfl ?_
      refine lv_astore_n (lv' := [(3, .ref q9), (0, .ref (ad 0)), (1, .int p0), (2, .ref (ad 2000))]) hx hb d_L_change_12 rfl hl (by decide) rfl (fun ls hl => ?_)
      refine lv_iconst (v := 1) hx hb d_L_change_13 (by decide) ?_
      exact m_iret (v := 1) hx hb hr hm (⟨ad, (I, J, F, si, tc, oc), f, fun _ _ => rfl, Prod.ext rfl (hG.trans (congrArg (gE dA ad I J F si tc oc) (va_upid hO).symm)), Or.inr (Or.inl ⟨rfl, hq, rfl⟩)⟩) d_L_change_14 hlocks
    · refine vx_catch (own := "EdgeWearLaw") (name := "java/lang/IllegalStateException") hown [⟨0, 9, 12, 13⟩] ⟨0, 9, 15, 17⟩ [] (htab.trans rfl) (List.forall_mem_cons.mpr ⟨Or.inr ⟨by decide, "java/lang/IndexOutOfBoundsException", hT _ k_122, hC.2.2.2.2.2.2.1⟩, fun _ h => absurd h List.not_mem_nil⟩) rfl (by decide) (hT _ k_124) (hC.2.2.2.use (w := .castable "java/lang/IllegalStateException" "java/lang/IllegalStateException") (by decide +kernel)) h7 h8 h9 ?_
      refine W.eq (g2 := F0 m 15 ls [.ref q9]) rfl ?_
      refine lv_astore_n (lv' := [(3, .ref q9), (0, .ref (ad 0)), (1, .int p0), (2, .ref (ad 2000))]) hx hb d_L_change_15 rfl hl (by decide) rfl (fun ls hl => ?_)
      refine lv_iconst (v := 2) hx hb d_L_change_16 (by decide) ?_
      exact m_iret (v := 2) hx hb hr hm (⟨ad, (I, J, F, si, tc, oc), f, fun _ _ => rfl, Prod.ext rfl (hG.trans (congrArg (gE dA ad I J F si tc oc) (va_upid hO).symm)), Or.inr (Or.inr (⟨rfl, hq, rfl⟩))⟩) d_L_change_17 hlocks
  · have hrel : R_E_change I J F si tc oc p0 r_1 (I, J, F, si, tc, oc) := ⟨w_2, rfl⟩
    refine lv_i2l hx hb d_L_change_7 rfl ?_
    refine lv_topl (fun x_3 ex_3 => ?_)
    refine m_last hx hb hC.1 hm 2000 rfl 1 (((congrFun hG 2000).trans (gE_out (by decide))).trans hO) rfl (vpc _ _ (by decide)) d_L_change_8 (fun H locs hm => ?_)
    obtain ⟨G_4, eG_4⟩ : ∃ z : mG, z = va_up G 2000 (some (.inl ((dA 1), 1, .inr (.inl (vp_updL f 0 x_3))))) := ⟨_, rfl⟩
    have hm : mS D mCl (mA ad G s.heap.size) s.heap ad G_4 H locs := by rw [eG_4]; exact hm
    have g_5 := (congrFun eG_4 0).trans ((va_up_ne _ _ (by decide)).trans ((congrFun hG 0).trans gE_c0))
    have g_6 : G_4 2000 = some (.inl ((dA 1), 1, .inr (.inl (vp_updL f 0 x_3)))) := by rw [eG_4, va_up_self]
    refine lv_goto (tgt := 18) hx hb d_L_change_9 (by decide) ?_
    refine lv_iconst (v := 0) hx hb d_L_change_18 (by decide) ?_
    exact m_iret (v := 0) hx hb hr hm (⟨ad, (I, J, F, si, tc, oc), vp_updL f 0 x_3, fun _ _ => rfl, Prod.ext rfl (by
      show G_4 = _
      rw [eG_4, hG, gE_up 2000 (by decide)]), Or.inl ⟨rfl, r_1, pk_uLs.trans ex_3, hrel⟩⟩) d_L_change_19 hlocks

set_option maxHeartbeats 4000000 in
set_option maxRecDepth 100000 in
theorem c_L_changed (l : Launch) (hlt : l.stackTraces = false) (D : va_G) (dA : Nat → ClassId) (ad : Nat → Nat) (G : mG) (sz : Nat) (I : Nat → Nat → Int32) (J : Nat → Nat → Int64) (F : Nat → Nat → Nat → Int32) (si : Nat → Nat) (tc oc : Nat) (G0 : mG) (hG : G = gE dA ad I J F si tc oc G0) (ht : tc ≤ 12) (hL : ∀ i, i < 4 → ∃ c, c ≤ 40 ∧ I 2 i = nI c) (p0 p1 p2 : Int32) (ho : oc ≤ 16) (f : Nat → Int64) (hO : G0 2000 = some (.inl (dA 1, 1, .inr (.inl f)))) : Met l y_L_changed (.codeWith y_L_changed b_L_changed 6 (some .int) [(0, 11, 14, 13), (0, 11, 18, 15), (0, 11, 22, 17)] :: mBig) ({ frames := 8, cells := 2, slots := 12, locals := 128 }) (mPc [.ref (ad 0), .int p0, .int p1, .int p2, .ref (ad 2000)] D mCl (mTys dA) mTx ad G sz) (mQi (fun (rv : Int32) (u : mU) => (∃ (ad1 : Nat → Nat) (x1 : eS) (f1 : Nat → Int64), (∀ k, k = 0 ∨ 1000 ≤ k → ad1 k = ad k) ∧ u = (ad1, gEx dA ad1 x1 (va_up G0 2000 (some (.inl (dA 1, 1, .inr (.inl f1)))))) ∧ R_L_changed I J F si tc oc p0 p1 p2 rv (f1 0) x1)) D mCl ad G sz) 2 12 (mA ad G sz) := by
  refine va_MetW (cc := b_L_changed) (maxL := 6) (ret := (some .int)) (hh := [(0, 11, 14, 13), (0, 11, 18, 15), (0, 11, 22, 17)]) (by decide) rfl ?_
  intro p e s m args below meth c s₁ BB hml hv
  obtain ⟨rfl, hsz, hw0, hC⟩ := hv
  have hx := BB.exec
  have hb := BB.bytes
  have hr := BB.returns
  have hts := atoms_spec (ws := .codeWith y_L_changed b_L_changed 6 (some .int) [(0, 11, 14, 13), (0, 11, 18, 15), (0, 11, 22, 17)] :: mBig) BB.pre
  have hT : ∀ w ∈ mBig, w.before _ s = true := fun w h => hts w (List.mem_cons_of_mem _ h)
  have hown : s.vm.findClass "EdgeWearLaw" = some m.cls := findClass_of_methodNamed BB.named
  have htab := vx_table (x := y_L_changed) BB (hts _ List.mem_cons_self)
  have hlocks := BB.notSynchronized
  subst hsz
  have hm := mS.start hw0
  have hA : ∀ q : Nat, s.heap.size ≤ q → mA ad G s.heap.size q := fun q h => Or.inr h
  have hl := lv_entry ([.ref (ad 0), .int p0, .int p1, .int p2, .ref (ad 2000)]) (n := 6) (Nat.le_of_ble_eq_true rfl)
  rw [lg_entry_eq]
  generalize (lg_sl ([.ref (ad 0), .int p0, .int p1, .int p2, .ref (ad 2000)]) ++ List.replicate (6 - (lg_sl ([.ref (ad 0), .int p0, .int p1, .int p2, .ref (ad 2000)])).length) Slot.unset).toArray = ls at hl ⊢
  have hl : lv_has ls 6 [(0, .ref (ad 0)), (1, .int p0), (2, .int p1), (3, .int p2), (4, .ref (ad 2000))] := hl
  refine lv_aload hx hb d_L_changed_0 (lv_at hl 4 rfl) ?_
  refine lv_iconst (v := 0) hx hb d_L_changed_2 (by decide) ?_
  refine lv_aload_n hx hb d_L_changed_3 rfl (lv_at hl 0 rfl) ?_
  refine lv_iload_n hx hb d_L_changed_4 rfl (lv_at hl 1 rfl) ?_
  refine lv_iload_n hx hb d_L_changed_5 rfl (lv_at hl 2 rfl) ?_
  refine lv_iload_n hx hb d_L_changed_6 rfl (lv_at hl 3 rfl) ?_
  refine x_rol (x_runV (As := [.int p0, .int p1, .int p2]) (rest := [.int 0, .ref (ad 2000)]) ⟨hx, hb, hml, hown, hts⟩ (c_E_changed l hlt D dA ad G s.heap.size I J F si tc oc G0 hG ht hL p0 p1 p2) (cwV 3 hts (gV k_444 k_441 k_442 k_443 k_1) rfl rfl rfl (by decide +kernel) ⟨Nat.le_of_ble_eq_true rfl, Nat.le_of_ble_eq_true rfl⟩) hm hA hC 0 rfl ((congrFun hG 0).trans gE_c0) rfl rfl rfl hl.1 rfl (Nat.le_of_ble_eq_true rfl) d_L_changed_7 ⟨Nat.le_of_ble_eq_true rfl, Nat.le_of_ble_eq_true rfl⟩) hm hA (fun E ce q9 H locs w_2 hm h7 h8 h9 => ?_) (fun r_1 H locs w_2 hm => ?_)
  · have hpx := w_2
    rcases hpx with ⟨rfl, hq⟩ | ⟨rfl, hq⟩ | ⟨rfl, hq⟩
    · refine vx_catch (own := "EdgeWearLaw") (name := "java/lang/IndexOutOfBoundsException") hown [] ⟨0, 11, 14, 13⟩ [⟨0, 11, 18, 15⟩, ⟨0, 11, 22, 17⟩] (htab.trans rfl) (fun _ h => absurd h List.not_mem_nil) rfl (by decide) (hT _ k_122) (hC.2.2.2.use (w := .castable "java/lang/IndexOutOfBoundsException" "java/lang/IndexOutOfBoundsException") (by decide +kernel)) h7 h8 h9 ?_
      refine W.eq (g2 := F0 m 14 ls [.ref q9]) rfl ?_
      refine lv_astore (lv' := [(5, .ref q9), (0, .ref (ad 0)), (1, .int p0), (2, .int p1), (3, .int p2), (4, .ref (ad 2000))]) hx hb d_L_changed_14 hl (by decide) rfl (fun ls hl => ?_)
      refine lv_iconst (v := 1) hx hb d_L_changed_16 (by decide) ?_
      exact m_iret (v := 1) hx hb hr hm (⟨ad, (I, J, F, si, tc, oc), f, fun _ _ => rfl, Prod.ext rfl (hG.trans (congrArg (gE dA ad I J F si tc oc) (va_upid hO).symm)), Or.inr (Or.inl ⟨rfl, hq, rfl⟩)⟩) d_L_changed_17 hlocks
    · refine vx_catch (own := "EdgeWearLaw") (name := "java/lang/IllegalArgumentException") hown [⟨0, 11, 14, 13⟩] ⟨0, 11, 18, 15⟩ [⟨0, 11, 22, 17⟩] (htab.trans rfl) (List.forall_mem_cons.mpr ⟨Or.inr ⟨by decide, "java/lang/IndexOutOfBoundsException", hT _ k_122, hC.2.2.2.2.2.1⟩, fun _ h => absurd h List.not_mem_nil⟩) rfl (by decide) (hT _ k_123) (hC.2.2.2.use (w := .castable "java/lang/IllegalArgumentException" "java/lang/IllegalArgumentException") (by decide +kernel)) h7 h8 h9 ?_
      refine W.eq (g2 := F0 m 18 ls [.ref q9]) rfl ?_
      refine lv_astore (lv' := [(5, .ref q9), (0, .ref (ad 0)), (1, .int p0), (2, .int p1), (3, .int p2), (4, .ref (ad 2000))]) hx hb d_L_changed_18 hl (by decide) rfl (fun ls hl => ?_)
      refine lv_iconst (v := 2) hx hb d_L_changed_20 (by decide) ?_
      exact m_iret (v := 2) hx hb hr hm (⟨ad, (I, J, F, si, tc, oc), f, fun _ _ => rfl, Prod.ext rfl (hG.trans (congrArg (gE dA ad I J F si tc oc) (va_upid hO).symm)), Or.inr (Or.inr (Or.inl ⟨rfl, hq, rfl⟩))⟩) d_L_changed_21 hlocks
    · refine vx_catch (own := "EdgeWearLaw") (name := "java/lang/IllegalStateException") hown [⟨0, 11, 14, 13⟩, ⟨0, 11, 18, 15⟩] ⟨0, 11, 22, 17⟩ [] (htab.trans rfl) (List.forall_mem_cons.mpr ⟨Or.inr ⟨by decide, "java/lang/IndexOutOfBoundsException", hT _ k_122, hC.2.2.2.2.2.2.1⟩, List.forall_mem_cons.mpr ⟨Or.inr ⟨by decide, "java/lang/IllegalArgumentException", hT _ k_123, hC.2.2.2.2.2.2.2⟩, fun _ h => absurd h List.not_mem_nil⟩⟩) rfl (by decide) (hT _ k_124) (hC.2.2.2.use (w := .castable "java/lang/IllegalStateException" "java/lang/IllegalStateException") (by decide +kernel)) h7 h8 h9 ?_
      refine W.eq (g2 := F0 m 22 ls [.ref q9]) rfl ?_
      refine lv_astore (lv' := [(5, .ref q9), (0, .ref (ad 0)), (1, .int p0), (2, .int p1), (3, .int p2), (4, .ref (ad 2000))]) hx hb d_L_changed_22 hl (by decide) rfl (fun ls hl => ?_)
      refine lv_iconst (v := 3) hx hb d_L_changed_24 (by decide) ?_
      exact m_iret (v := 3) hx hb hr hm (⟨ad, (I, J, F, si, tc, oc), f, fun _ _ => rfl, Prod.ext rfl (hG.trans (congrArg (gE dA ad I J F si tc oc) (va_upid hO).symm)), Or.inr (Or.inr (Or.inr (⟨rfl, hq, rfl⟩)))⟩) d_L_changed_25 hlocks
  · have hrel : R_E_changed I J F si tc oc p0 p1 p2 r_1 (I, J, F, si, tc, oc) := ⟨w_2, rfl⟩
    refine m_last hx hb hC.1 hm 2000 rfl 1 (((congrFun hG 2000).trans (gE_out (by decide))).trans hO) rfl (vpc _ _ (by decide)) d_L_changed_10 (fun H locs hm => ?_)
    obtain ⟨G_3, eG_3⟩ : ∃ z : mG, z = va_up G 2000 (some (.inl ((dA 1), 1, .inr (.inl (vp_updL f 0 r_1))))) := ⟨_, rfl⟩
    have hm : mS D mCl (mA ad G s.heap.size) s.heap ad G_3 H locs := by rw [eG_3]; exact hm
    have g_4 := (congrFun eG_3 0).trans ((va_up_ne _ _ (by decide)).trans ((congrFun hG 0).trans gE_c0))
    have g_5 : G_3 2000 = some (.inl ((dA 1), 1, .inr (.inl (vp_updL f 0 r_1)))) := by rw [eG_3, va_up_self]
    refine lv_goto (tgt := 26) hx hb d_L_changed_11 (by decide) ?_
    refine lv_iconst (v := 0) hx hb d_L_changed_26 (by decide) ?_
    exact m_iret (v := 0) hx hb hr hm (⟨ad, (I, J, F, si, tc, oc), vp_updL f 0 r_1, fun _ _ => rfl, Prod.ext rfl (by
      show G_3 = _
      rw [eG_3, hG, gE_up 2000 (by decide)]), Or.inl ⟨rfl, r_1, pk_uLs, hrel⟩⟩) d_L_changed_27 hlocks

set_option maxHeartbeats 4000000 in
set_option maxRecDepth 100000 in
theorem c_L_breaks (l : Launch) (hlt : l.stackTraces = false) (D : va_G) (dA : Nat → ClassId) (ad : Nat → Nat) (G : mG) (sz : Nat) (I : Nat → Nat → Int32) (J : Nat → Nat → Int64) (F : Nat → Nat → Nat → Int32) (si : Nat → Nat) (tc oc : Nat) (G0 : mG) (hG : G = gE dA ad I J F si tc oc G0) (ht : tc ≤ 12) (hL : ∀ i, i < 4 → ∃ c, c ≤ 40 ∧ I 2 i = nI c) (p0 p1 : Int32) (ho : oc ≤ 16) (f : Nat → Int64) (hO : G0 2000 = some (.inl (dA 1, 1, .inr (.inl f)))) : Met l y_L_breaks (.codeWith y_L_breaks b_L_breaks 5 (some .int) [(0, 10, 13, 13), (0, 10, 17, 15), (0, 10, 21, 17)] :: mBig) ({ frames := 8, cells := 2, slots := 12, locals := 128 }) (mPc [.ref (ad 0), .int p0, .int p1, .ref (ad 2000)] D mCl (mTys dA) mTx ad G sz) (mQi (fun (rv : Int32) (u : mU) => (∃ (ad1 : Nat → Nat) (x1 : eS) (f1 : Nat → Int64), (∀ k, k = 0 ∨ 1000 ≤ k → ad1 k = ad k) ∧ u = (ad1, gEx dA ad1 x1 (va_up G0 2000 (some (.inl (dA 1, 1, .inr (.inl f1)))))) ∧ R_L_breaks I J F si tc oc p0 p1 rv (f1 0) x1)) D mCl ad G sz) 2 12 (mA ad G sz) := by
  refine va_MetW (cc := b_L_breaks) (maxL := 5) (ret := (some .int)) (hh := [(0, 10, 13, 13), (0, 10, 17, 15), (0, 10, 21, 17)]) (by decide) rfl ?_
  intro p e s m args below meth c s₁ BB hml hv
  obtain ⟨rfl, hsz, hw0, hC⟩ := hv
  have hx := BB.exec
  have hb := BB.bytes
  have hr := BB.returns
  have hts := atoms_spec (ws := .codeWith y_L_breaks b_L_breaks 5 (some .int) [(0, 10, 13, 13), (0, 10, 17, 15), (0, 10, 21, 17)] :: mBig) BB.pre
  have hT : ∀ w ∈ mBig, w.before _ s = true := fun w h => hts w (List.mem_cons_of_mem _ h)
  have hown : s.vm.findClass "EdgeWearLaw" = some m.cls := findClass_of_methodNamed BB.named
  have htab := vx_table (x := y_L_breaks) BB (hts _ List.mem_cons_self)
  have hlocks := BB.notSynchronized
  subst hsz
  have hm := mS.start hw0
  have hA : ∀ q : Nat, s.heap.size ≤ q → mA ad G s.heap.size q := fun q h => Or.inr h
  have hl := lv_entry ([.ref (ad 0), .int p0, .int p1, .ref (ad 2000)]) (n := 5) (Nat.le_of_ble_eq_true rfl)
  rw [lg_entry_eq]
  generalize (lg_sl ([.ref (ad 0), .int p0, .int p1, .ref (ad 2000)]) ++ List.replicate (5 - (lg_sl ([.ref (ad 0), .int p0, .int p1, .ref (ad 2000)])).length) Slot.unset).toArray = ls at hl ⊢
  have hl : lv_has ls 5 [(0, .ref (ad 0)), (1, .int p0), (2, .int p1), (3, .ref (ad 2000))] := hl
  refine lv_aload_n hx hb d_L_breaks_0 rfl (lv_at hl 3 rfl) ?_
  refine lv_iconst (v := 0) hx hb d_L_breaks_1 (by decide) ?_
  refine lv_aload_n hx hb d_L_breaks_2 rfl (lv_at hl 0 rfl) ?_
  refine lv_iload_n hx hb d_L_breaks_3 rfl (lv_at hl 1 rfl) ?_
  refine lv_iload_n hx hb d_L_breaks_4 rfl (lv_at hl 2 rfl) ?_
  refine x_roi (x_runV (As := [.int p0, .int p1]) (rest := [.int 0, .ref (ad 2000)]) ⟨hx, hb, hml, hown, hts⟩ (c_E_breaks l hlt D dA ad G s.heap.size I J F si tc oc G0 hG ht hL p0 p1) (cwV 2 hts (gV k_463 k_460 k_461 k_462 k_1) rfl rfl rfl (by decide +kernel) ⟨Nat.le_of_ble_eq_true rfl, Nat.le_of_ble_eq_true rfl⟩) hm hA hC 0 rfl ((congrFun hG 0).trans gE_c0) rfl rfl rfl hl.1 rfl (Nat.le_of_ble_eq_true rfl) d_L_breaks_5 ⟨Nat.le_of_ble_eq_true rfl, Nat.le_of_ble_eq_true rfl⟩) hm hA (fun E ce q9 H locs w_2 hm h7 h8 h9 => ?_) (fun r_1 H locs w_2 hm => ?_)
  · have hpx := w_2
    rcases hpx with ⟨rfl, hq⟩ | ⟨rfl, hq⟩ | ⟨rfl, hq⟩
    · refine vx_catch (own := "EdgeWearLaw") (name := "java/lang/IndexOutOfBoundsException") hown [] ⟨0, 10, 13, 13⟩ [⟨0, 10, 17, 15⟩, ⟨0, 10, 21, 17⟩] (htab.trans rfl) (fun _ h => absurd h List.not_mem_nil) rfl (by decide) (hT _ k_122) (hC.2.2.2.use (w := .castable "java/lang/IndexOutOfBoundsException" "java/lang/IndexOutOfBoundsException") (by decide +kernel)) h7 h8 h9 ?_
      refine W.eq (g2 := F0 m 13 ls [.ref q9]) rfl ?_
      refine lv_astore (lv' := [(4, .ref q9), (0, .ref (ad 0)), (1, .int p0), (2, .int p1), (3, .ref (ad 2000))]) hx hb d_L_breaks_13 hl (by decide) rfl (fun ls hl => ?_)
      refine lv_iconst (v := 1) hx hb d_L_breaks_15 (by decide) ?_
      exact m_iret (v := 1) hx hb hr hm (⟨ad, (I, J, F, si, tc, oc), f, fun _ _ => rfl, Prod.ext rfl (hG.trans (congrArg (gE dA ad I J F si tc oc) (va_upid hO).symm)), Or.inr (Or.inl ⟨rfl, hq, rfl⟩)⟩) d_L_breaks_16 hlocks
    · refine vx_catch (own := "EdgeWearLaw") (name := "java/lang/IllegalArgumentException") hown [⟨0, 10, 13, 13⟩] ⟨0, 10, 17, 15⟩ [⟨0, 10, 21, 17⟩] (htab.trans rfl) (List.forall_mem_cons.mpr ⟨Or.inr ⟨by decide, "java/lang/IndexOutOfBoundsException", hT _ k_122, hC.2.2.2.2.2.1⟩, fun _ h => absurd h List.not_mem_nil⟩) rfl (by decide) (hT _ k_123) (hC.2.2.2.use (w := .castable "java/lang/IllegalArgumentException" "java/lang/IllegalArgumentException") (by decide +kernel)) h7 h8 h9 ?_
      refine W.eq (g2 := F0 m 17 ls [.ref q9]) rfl ?_
      refine lv_astore (lv' := [(4, .ref q9), (0, .ref (ad 0)), (1, .int p0), (2, .int p1), (3, .ref (ad 2000))]) hx hb d_L_breaks_17 hl (by decide) rfl (fun ls hl => ?_)
      refine lv_iconst (v := 2) hx hb d_L_breaks_19 (by decide) ?_
      exact m_iret (v := 2) hx hb hr hm (⟨ad, (I, J, F, si, tc, oc), f, fun _ _ => rfl, Prod.ext rfl (hG.trans (congrArg (gE dA ad I J F si tc oc) (va_upid hO).symm)), Or.inr (Or.inr (Or.inl ⟨rfl, hq, rfl⟩))⟩) d_L_breaks_20 hlocks
    · refine vx_catch (own := "EdgeWearLaw") (name := "java/lang/IllegalStateException") hown [⟨0, 10, 13, 13⟩, ⟨0, 10, 17, 15⟩] ⟨0, 10, 21, 17⟩ [] (htab.trans rfl) (List.forall_mem_cons.mpr ⟨Or.inr ⟨by decide, "java/lang/IndexOutOfBoundsException", hT _ k_122, hC.2.2.2.2.2.2.1⟩, List.forall_mem_cons.mpr ⟨Or.inr ⟨by decide, "java/lang/IllegalArgumentException", hT _ k_123, hC.2.2.2.2.2.2.2⟩, fun _ h => absurd h List.not_mem_nil⟩⟩) rfl (by decide) (hT _ k_124) (hC.2.2.2.use (w := .castable "java/lang/IllegalStateException" "java/lang/IllegalStateException") (by decide +kernel)) h7 h8 h9 ?_
      refine W.eq (g2 := F0 m 21 ls [.ref q9]) rfl ?_
      refine lv_astore (lv' := [(4, .ref q9), (0, .ref (ad 0)), (1, .int p0), (2, .int p1), (3, .ref (ad 2000))]) hx hb d_L_breaks_21 hl (by decide) rfl (fun ls hl => ?_)
      refine lv_iconst (v := 3) hx hb d_L_breaks_23 (by decide) ?_
      exact m_iret (v := 3) hx hb hr hm (⟨ad, (I, J, F, si, tc, oc), f, fun _ _ => rfl, Prod.ext rfl (hG.trans (congrArg (gE dA ad I J F si tc oc) (va_upid hO).symm)), Or.inr (Or.inr (Or.inr (⟨rfl, hq, rfl⟩)))⟩) d_L_breaks_24 hlocks
  · have hrel : R_E_breaks I J F si tc oc p0 p1 r_1 (I, J, F, si, tc, oc) := ⟨w_2, rfl⟩
    refine lv_i2l hx hb d_L_breaks_8 rfl ?_
    refine lv_topl (fun x_3 ex_3 => ?_)
    refine m_last hx hb hC.1 hm 2000 rfl 1 (((congrFun hG 2000).trans (gE_out (by decide))).trans hO) rfl (vpc _ _ (by decide)) d_L_breaks_9 (fun H locs hm => ?_)
    obtain ⟨G_4, eG_4⟩ : ∃ z : mG, z = va_up G 2000 (some (.inl ((dA 1), 1, .inr (.inl (vp_updL f 0 x_3))))) := ⟨_, rfl⟩
    have hm : mS D mCl (mA ad G s.heap.size) s.heap ad G_4 H locs := by rw [eG_4]; exact hm
    have g_5 := (congrFun eG_4 0).trans ((va_up_ne _ _ (by decide)).trans ((congrFun hG 0).trans gE_c0))
    have g_6 : G_4 2000 = some (.inl ((dA 1), 1, .inr (.inl (vp_updL f 0 x_3)))) := by rw [eG_4, va_up_self]
    refine lv_goto (tgt := 25) hx hb d_L_breaks_10 (by decide) ?_
    refine lv_iconst (v := 0) hx hb d_L_breaks_25 (by decide) ?_
    exact m_iret (v := 0) hx hb hr hm (⟨ad, (I, J, F, si, tc, oc), vp_updL f 0 x_3, fun _ _ => rfl, Prod.ext rfl (by
      show G_4 = _
      rw [eG_4, hG, gE_up 2000 (by decide)]), Or.inl ⟨rfl, r_1, pk_uLs.trans ex_3, hrel⟩⟩) d_L_breaks_26 hlocks

set_option maxHeartbeats 4000000 in
set_option maxRecDepth 100000 in
theorem c_L_rules (l : Launch) (hlt : l.stackTraces = false) (D : va_G) (dA : Nat → ClassId) (ad : Nat → Nat) (G : mG) (sz : Nat) (I : Nat → Nat → Int32) (J : Nat → Nat → Int64) (F : Nat → Nat → Nat → Int32) (si : Nat → Nat) (tc oc : Nat) (G0 : mG) (hG : G = gE dA ad I J F si tc oc G0) (ht : tc ≤ 12) (p0 p1 p2 p3 : Int32) (ho : oc ≤ 16) : Met l y_L_rules (.codeWith y_L_rules b_L_rules 6 (some .int) [(0, 9, 12, 15)] :: mBig) ({ frames := 7, cells := 1, slots := 6, locals := 106 }) (mPc [.ref (ad 0), .int p0, .int p1, .int p2, .int p3] D mCl (mTys dA) mTx ad G sz) (mQi (fun (rv : Int32) (u : mU) => (∃ (ad1 : Nat → Nat) (x1 : eS), (∀ k, k = 0 ∨ 1000 ≤ k → ad1 k = ad k) ∧ u = (ad1, gEx dA ad1 x1 G0) ∧ R_L_rules I J F si tc oc p0 p1 p2 p3 rv x1)) D mCl ad G sz) 1 6 (mA ad G sz) := by
  refine va_MetW (cc := b_L_rules) (maxL := 6) (ret := (some .int)) (hh := [(0, 9, 12, 15)]) (by decide) rfl ?_
  intro p e s m args below meth c s₁ BB hml hv
  obtain ⟨rfl, hsz, hw0, hC⟩ := hv
  have hx := BB.exec
  have hb := BB.bytes
  have hr := BB.returns
  have hts := atoms_spec (ws := .codeWith y_L_rules b_L_rules 6 (some .int) [(0, 9, 12, 15)] :: mBig) BB.pre
  have hT : ∀ w ∈ mBig, w.before _ s = true := fun w h => hts w (List.mem_cons_of_mem _ h)
  have hown : s.vm.findClass "EdgeWearLaw" = some m.cls := findClass_of_methodNamed BB.named
  have htab := vx_table (x := y_L_rules) BB (hts _ List.mem_cons_self)
  have hlocks := BB.notSynchronized
  subst hsz
  have hm := mS.start hw0
  have hA : ∀ q : Nat, s.heap.size ≤ q → mA ad G s.heap.size q := fun q h => Or.inr h
  have hl := lv_entry ([.ref (ad 0), .int p0, .int p1, .int p2, .int p3]) (n := 6) (Nat.le_of_ble_eq_true rfl)
  rw [lg_entry_eq]
  generalize (lg_sl ([.ref (ad 0), .int p0, .int p1, .int p2, .int p3]) ++ List.replicate (6 - (lg_sl ([.ref (ad 0), .int p0, .int p1, .int p2, .int p3])).length) Slot.unset).toArray = ls at hl ⊢
  have hl : lv_has ls 6 [(0, .ref (ad 0)), (1, .int p0), (2, .int p1), (3, .int p2), (4, .int p3)] := hl
  refine lv_aload_n hx hb d_L_rules_0 rfl (lv_at hl 0 rfl) ?_
  refine lv_iload_n hx hb d_L_rules_1 rfl (lv_at hl 1 rfl) ?_
  refine lv_iload_n hx hb d_L_rules_2 rfl (lv_at hl 2 rfl) ?_
  refine lv_iload_n hx hb d_L_rules_3 rfl (lv_at hl 3 rfl) ?_
  refine lv_iload hx hb d_L_rules_4 (lv_at hl 4 rfl) ?_
  refine x_callv (x_runV (As := [.int p0, .int p1, .int p2, .int p3]) (rest := []) ⟨hx, hb, hml, hown, hts⟩ (c_E_rules l hlt D dA ad G s.heap.size I J F si tc oc G0 hG ht p0 p1 p2 p3) (cwV 4 hts (gV k_479 k_476 k_477 k_478 k_1) rfl rfl rfl (by decide +kernel) ⟨Nat.le_of_ble_eq_true rfl, Nat.le_of_ble_eq_true rfl⟩) hm hA hC 0 rfl ((congrFun hG 0).trans gE_c0) rfl rfl rfl hl.1 rfl (Nat.le_of_ble_eq_true rfl) d_L_rules_6 ⟨Nat.le_of_ble_eq_true rfl, Nat.le_of_ble_eq_true rfl⟩) hm hA (fun E ce q9 ad_4 G_3 H locs w_2 hm h7 h8 h9 => ?_) (fun ad_4 G_3 H locs w_2 hm => ?_)
  · obtain ⟨hpx, hu9⟩ := w_2
    obtain ⟨ea9, eg9⟩ := Prod.mk.inj hu9
    rw [ea9, eg9] at hm
    rcases hpx with ⟨rfl, hq⟩
    · refine vx_catch (own := "EdgeWearLaw") (name := "java/lang/IllegalArgumentException") hown [] ⟨0, 9, 12, 15⟩ [] (htab.trans rfl) (fun _ h => absurd h List.not_mem_nil) rfl (by decide) (hT _ k_123) (hC.2.2.2.use (w := .castable "java/lang/IllegalArgumentException" "java/lang/IllegalArgumentException") (by decide +kernel)) h7 h8 h9 ?_
      refine W.eq (g2 := F0 m 12 ls [.ref q9]) rfl ?_
      refine lv_astore (lv' := [(5, .ref q9), (0, .ref (ad 0)), (1, .int p0), (2, .int p1), (3, .int p2), (4, .int p3)]) hx hb d_L_rules_12 hl (by decide) rfl (fun ls hl => ?_)
      refine lv_iconst (v := 1) hx hb d_L_rules_14 (by decide) ?_
      exact m_iret (v := 1) hx hb hr hm (⟨ad, (I, J, F, si, tc, oc), fun _ _ => rfl, Prod.ext rfl hG, Or.inr (⟨rfl, hq, rfl⟩)⟩) d_L_rules_15 hlocks
  · obtain ⟨x1, had, hu9, hrel⟩ := kE_rules ht ho w_2
    replace hu9 : G_3 = gEx dA ad_4 x1 G0 := hu9
    replace had : ∀ k, k = 0 ∨ 1000 ≤ k → ad_4 k = ad k := had
    refine lv_goto (tgt := 16) hx hb d_L_rules_9 (by decide) ?_
    refine lv_iconst (v := 0) hx hb d_L_rules_16 (by decide) ?_
    exact m_iret (v := 0) hx hb hr hm (⟨ad_4, x1, had, Prod.ext rfl hu9, Or.inl ⟨rfl, hrel⟩⟩) d_L_rules_17 hlocks

set_option maxHeartbeats 4000000 in
set_option maxRecDepth 100000 in
theorem c_L_power (l : Launch) (hlt : l.stackTraces = false) (D : va_G) (dA : Nat → ClassId) (ad : Nat → Nat) (G : mG) (sz : Nat) (I : Nat → Nat → Int32) (J : Nat → Nat → Int64) (F : Nat → Nat → Nat → Int32) (si : Nat → Nat) (tc oc : Nat) (G0 : mG) (hG : G = gE dA ad I J F si tc oc G0) (ht : tc ≤ 12) (hR : ∃ k, 2 ≤ k ∧ k ≤ 12 ∧ I 0 2 = nI k) (p0 p1 p2 : Int32) (ho : oc ≤ 16) (f : Nat → Int64) (hO : G0 2000 = some (.inl (dA 1, 1, .inr (.inl f)))) : Met l y_L_power (.codeWith y_L_power b_L_power 6 (some .int) [(0, 12, 15, 13), (0, 12, 19, 15)] :: mBig) ({ frames := 8, cells := 2, slots := 12, locals := 128 }) (mPc [.ref (ad 0), .int p0, .int p1, .int p2, .ref (ad 2000)] D mCl (mTys dA) mTx ad G sz) (mQi (fun (rv : Int32) (u : mU) => (∃ (ad1 : Nat → Nat) (x1 : eS) (f1 : Nat → Int64), (∀ k, k = 0 ∨ 1000 ≤ k → ad1 k = ad k) ∧ u = (ad1, gEx dA ad1 x1 (va_up G0 2000 (some (.inl (dA 1, 1, .inr (.inl f1)))))) ∧ R_L_power I J F si tc oc p0 p1 p2 rv (f1 0) x1)) D mCl ad G sz) 2 12 (mA ad G sz) := by
  refine va_MetW (cc := b_L_power) (maxL := 6) (ret := (some .int)) (hh := [(0, 12, 15, 13), (0, 12, 19, 15)]) (by decide) rfl ?_
  intro p e s m args below meth c s₁ BB hml hv
  obtain ⟨rfl, hsz, hw0, hC⟩ := hv
  have hx := BB.exec
  have hb := BB.bytes
  have hr := BB.returns
  have hts := atoms_spec (ws := .codeWith y_L_power b_L_power 6 (some .int) [(0, 12, 15, 13), (0, 12, 19, 15)] :: mBig) BB.pre
  have hT : ∀ w ∈ mBig, w.before _ s = true := fun w h => hts w (List.mem_cons_of_mem _ h)
  have hown : s.vm.findClass "EdgeWearLaw" = some m.cls := findClass_of_methodNamed BB.named
  have htab := vx_table (x := y_L_power) BB (hts _ List.mem_cons_self)
  have hlocks := BB.notSynchronized
  subst hsz
  have hm := mS.start hw0
  have hA : ∀ q : Nat, s.heap.size ≤ q → mA ad G s.heap.size q := fun q h => Or.inr h
  have hl := lv_entry ([.ref (ad 0), .int p0, .int p1, .int p2, .ref (ad 2000)]) (n := 6) (Nat.le_of_ble_eq_true rfl)
  rw [lg_entry_eq]
  generalize (lg_sl ([.ref (ad 0), .int p0, .int p1, .int p2, .ref (ad 2000)]) ++ List.replicate (6 - (lg_sl ([.ref (ad 0), .int p0, .int p1, .int p2, .ref (ad 2000)])).length) Slot.unset).toArray = ls at hl ⊢
  have hl : lv_has ls 6 [(0, .ref (ad 0)), (1, .int p0), (2, .int p1), (3, .int p2), (4, .ref (ad 2000))] := hl
  refine lv_aload hx hb d_L_power_0 (lv_at hl 4 rfl) ?_
  refine lv_iconst (v := 0) hx hb d_L_power_2 (by decide) ?_
  refine lv_aload_n hx hb d_L_power_3 rfl (lv_at hl 0 rfl) ?_
  refine lv_iload_n hx hb d_L_power_4 rfl (lv_at hl 1 rfl) ?_
  refine lv_iload_n hx hb d_L_power_5 rfl (lv_at hl 2 rfl) ?_
  refine lv_iload_n hx hb d_L_power_6 rfl (lv_at hl 3 rfl) ?_
  refine x_calli (x_runV (As := [.int p0, .int p1, .int p2]) (rest := [.int 0, .ref (ad 2000)]) ⟨hx, hb, hml, hown, hts⟩ (c_E_power l hlt D dA ad G s.heap.size I J F si tc oc G0 hG ht hR p0 p1 p2) (cwV 3 hts (gV k_488 k_485 k_486 k_487 k_1) rfl rfl rfl (by decide +kernel) ⟨Nat.le_of_ble_eq_true rfl, Nat.le_of_ble_eq_true rfl⟩) hm hA hC 0 rfl ((congrFun hG 0).trans gE_c0) rfl rfl rfl hl.1 rfl (Nat.le_of_ble_eq_true rfl) d_L_power_7 ⟨Nat.le_of_ble_eq_true rfl, Nat.le_of_ble_eq_true rfl⟩) hm hA (fun E ce q9 ad_4 G_3 H locs w_2 hm h7 h8 h9 => ?_) (fun r_1 ad_4 G_3 H locs w_2 hm => ?_)
  · obtain ⟨hpx, hu9⟩ := w_2
    obtain ⟨ea9, eg9⟩ := Prod.mk.inj hu9
    rw [ea9, eg9] at hm
    rcases hpx with ⟨rfl, hq⟩ | ⟨rfl, hq⟩
    · refine vx_catch (own := "EdgeWearLaw") (name := "java/lang/IndexOutOfBoundsException") hown [] ⟨0, 12, 15, 13⟩ [⟨0, 12, 19, 15⟩] (htab.trans rfl) (fun _ h => absurd h List.not_mem_nil) rfl (by decide) (hT _ k_122) (hC.2.2.2.use (w := .castable "java/lang/IndexOutOfBoundsException" "java/lang/IndexOutOfBoundsException") (by decide +kernel)) h7 h8 h9 ?_
      refine W.eq (g2 := F0 m 15 ls [.ref q9]) rfl ?_
      refine lv_astore (lv' := [(5, .ref q9), (0, .ref (ad 0)), (1, .int p0), (2, .int p1), (3, .int p2), (4, .ref (ad 2000))]) hx hb d_L_power_15 hl (by decide) rfl (fun ls hl => ?_)
      refine lv_iconst (v := 1) hx hb d_L_power_17 (by decide) ?_
      exact m_iret (v := 1) hx hb hr hm (⟨ad, (I, J, F, si, tc, oc), f, fun _ _ => rfl, Prod.ext rfl (hG.trans (congrArg (gE dA ad I J F si tc oc) (va_upid hO).symm)), Or.inr (Or.inl ⟨rfl, hq, rfl⟩)⟩) d_L_power_18 hlocks
    · refine vx_catch (own := "EdgeWearLaw") (name := "java/lang/IllegalArgumentException") hown [⟨0, 12, 15, 13⟩] ⟨0, 12, 19, 15⟩ [] (htab.trans rfl) (List.forall_mem_cons.mpr ⟨Or.inr ⟨by decide, "java/lang/IndexOutOfBoundsException", hT _ k_122, hC.2.2.2.2.2.1⟩, fun _ h => absurd h List.not_mem_nil⟩) rfl (by decide) (hT _ k_123) (hC.2.2.2.use (w := .castable "java/lang/IllegalArgumentException" "java/lang/IllegalArgumentException") (by decide +kernel)) h7 h8 h9 ?_
      refine W.eq (g2 := F0 m 19 ls [.ref q9]) rfl ?_
      refine lv_astore (lv' := [(5, .ref q9), (0, .ref (ad 0)), (1, .int p0), (2, .int p1), (3, .int p2), (4, .ref (ad 2000))]) hx hb d_L_power_19 hl (by decide) rfl (fun ls hl => ?_)
      refine lv_iconst (v := 2) hx hb d_L_power_21 (by decide) ?_
      exact m_iret (v := 2) hx hb hr hm (⟨ad, (I, J, F, si, tc, oc), f, fun _ _ => rfl, Prod.ext rfl (hG.trans (congrArg (gE dA ad I J F si tc oc) (va_upid hO).symm)), Or.inr (Or.inr (⟨rfl, hq, rfl⟩))⟩) d_L_power_22 hlocks
  · obtain ⟨x1, had, hu9, hrel⟩ := kE_power ht ho w_2
    replace hu9 : G_3 = gEx dA ad_4 x1 G0 := hu9
    replace had : ∀ k, k = 0 ∨ 1000 ≤ k → ad_4 k = ad k := had
    have ho9 : G_3 2000 = some (.inl (dA 1, 1, .inr (.inl f))) := by
      rw [hu9]
      exact (gE_out (by decide)).trans hO
    refine lv_i2l hx hb d_L_power_10 rfl ?_
    refine lv_topl (fun x_5 ex_5 => ?_)
    refine m_last hx hb hC.1 hm 2000 (had 2000 (Or.inr (by decide))).symm 1 ho9 rfl (vpc _ _ (by decide)) d_L_power_11 (fun H locs hm => ?_)
    obtain ⟨G_6, eG_6⟩ : ∃ z : mG, z = va_up G_3 2000 (some (.inl ((dA 1), 1, .inr (.inl (vp_updL f 0 x_5))))) := ⟨_, rfl⟩
    have hm : mS D mCl (mA ad G s.heap.size) s.heap ad_4 G_6 H locs := by rw [eG_6]; exact hm
    have g_7 : G_6 2000 = some (.inl ((dA 1), 1, .inr (.inl (vp_updL f 0 x_5)))) := by rw [eG_6, va_up_self]
    refine lv_goto (tgt := 23) hx hb d_L_power_12 (by decide) ?_
    refine lv_iconst (v := 0) hx hb d_L_power_23 (by decide) ?_
    exact m_iret (v := 0) hx hb hr hm (⟨ad_4, x1, vp_updL f 0 x_5, had, Prod.ext rfl (by
      show G_6 = _
      rw [eG_6, hu9, gE_up 2000 (by decide)]), Or.inl ⟨rfl, r_1, pk_uLs.trans ex_5, hrel⟩⟩) d_L_power_24 hlocks

set_option maxHeartbeats 4000000 in
set_option maxRecDepth 100000 in
theorem c_L_order (l : Launch) (hlt : l.stackTraces = false) (D : va_G) (dA : Nat → ClassId) (ad : Nat → Nat) (G : mG) (sz : Nat) (I : Nat → Nat → Int32) (J : Nat → Nat → Int64) (F : Nat → Nat → Nat → Int32) (si : Nat → Nat) (tc oc : Nat) (G0 : mG) (hG : G = gE dA ad I J F si tc oc G0) (ht : tc ≤ 12) (ho : oc ≤ 16) (hs : ∀ i, i < tc → si i < 4) (p0 p1 : Int32) (f : Nat → Int64) (hO : G0 2000 = some (.inl (dA 1, 1, .inr (.inl f)))) : Met l y_L_order (.codeWith y_L_order b_L_order 5 (some .int) [(0, 17, 20, 13), (0, 17, 24, 15)] :: mBig) ({ frames := 8, cells := 2, slots := 12, locals := 127 }) (mPc [.ref (ad 0), .int p0, .int p1, .ref (ad 2000)] D mCl (mTys dA) mTx ad G sz) (mQi (fun (rv : Int32) (u : mU) => (∃ (ad1 : Nat → Nat) (x1 : eS) (f1 : Nat → Int64), (∀ k, k = 0 ∨ 1000 ≤ k → ad1 k = ad k) ∧ u = (ad1, gEx dA ad1 x1 (va_up G0 2000 (some (.inl (dA 1, 1, .inr (.inl f1)))))) ∧ R_L_order I J F si tc oc p0 p1 rv (f1 0) x1)) D mCl ad G sz) 2 12 (mA ad G sz) := by
  refine va_MetW (cc := b_L_order) (maxL := 5) (ret := (some .int)) (hh := [(0, 17, 20, 13), (0, 17, 24, 15)]) (by decide) rfl ?_
  intro p e s m args below meth c s₁ BB hml hv
  obtain ⟨rfl, hsz, hw0, hC⟩ := hv
  have hx := BB.exec
  have hb := BB.bytes
  have hr := BB.returns
  have hts := atoms_spec (ws := .codeWith y_L_order b_L_order 5 (some .int) [(0, 17, 20, 13), (0, 17, 24, 15)] :: mBig) BB.pre
  have hT : ∀ w ∈ mBig, w.before _ s = true := fun w h => hts w (List.mem_cons_of_mem _ h)
  have hown : s.vm.findClass "EdgeWearLaw" = some m.cls := findClass_of_methodNamed BB.named
  have htab := vx_table (x := y_L_order) BB (hts _ List.mem_cons_self)
  have hlocks := BB.notSynchronized
  subst hsz
  have hm := mS.start hw0
  have hA : ∀ q : Nat, s.heap.size ≤ q → mA ad G s.heap.size q := fun q h => Or.inr h
  have hl := lv_entry ([.ref (ad 0), .int p0, .int p1, .ref (ad 2000)]) (n := 5) (Nat.le_of_ble_eq_true rfl)
  rw [lg_entry_eq]
  generalize (lg_sl ([.ref (ad 0), .int p0, .int p1, .ref (ad 2000)]) ++ List.replicate (5 - (lg_sl ([.ref (ad 0), .int p0, .int p1, .ref (ad 2000)])).length) Slot.unset).toArray = ls at hl ⊢
  have hl : lv_has ls 5 [(0, .ref (ad 0)), (1, .int p0), (2, .int p1), (3, .ref (ad 2000))] := hl
  refine lv_aload_n hx hb d_L_order_0 rfl (lv_at hl 3 rfl) ?_
  refine lv_iconst (v := 0) hx hb d_L_order_1 (by decide) ?_
  refine lv_aload_n hx hb d_L_order_2 rfl (lv_at hl 0 rfl) ?_
  refine lv_iload_n hx hb d_L_order_3 rfl (lv_at hl 1 rfl) ?_
  refine lv_iload_n hx hb d_L_order_4 rfl (lv_at hl 2 rfl) ?_
  refine x_calli (x_runV (As := [.int p0, .int p1]) (rest := [.int 0, .ref (ad 2000)]) ⟨hx, hb, hml, hown, hts⟩ (c_E_order l hlt D dA ad G s.heap.size I J F si tc oc G0 hG ht ho hs p0 p1) (cwV 2 hts (gV k_532 k_529 k_530 k_531 k_1) rfl rfl rfl (by decide +kernel) ⟨Nat.le_of_ble_eq_true rfl, Nat.le_of_ble_eq_true rfl⟩) hm hA hC 0 rfl ((congrFun hG 0).trans gE_c0) rfl rfl rfl hl.1 rfl (Nat.le_of_ble_eq_true rfl) d_L_order_5 ⟨Nat.le_of_ble_eq_true rfl, Nat.le_of_ble_eq_true rfl⟩) hm hA (fun E ce q9 ad_4 G_3 H locs w_2 hm h7 h8 h9 => ?_) (fun r_1 ad_4 G_3 H locs w_2 hm => ?_)
  · obtain ⟨hpx, hu9⟩ := w_2
    obtain ⟨ea9, eg9⟩ := Prod.mk.inj hu9
    rw [ea9, eg9] at hm
    rcases hpx with ⟨rfl, hq⟩ | ⟨rfl, hq⟩
    · refine vx_catch (own := "EdgeWearLaw") (name := "java/lang/IndexOutOfBoundsException") hown [] ⟨0, 17, 20, 13⟩ [⟨0, 17, 24, 15⟩] (htab.trans rfl) (fun _ h => absurd h List.not_mem_nil) rfl (by decide) (hT _ k_122) (hC.2.2.2.use (w := .castable "java/lang/IndexOutOfBoundsException" "java/lang/IndexOutOfBoundsException") (by decide +kernel)) h7 h8 h9 ?_
      refine W.eq (g2 := F0 m 20 ls [.ref q9]) rfl ?_
      refine lv_astore (lv' := [(4, .ref q9), (0, .ref (ad 0)), (1, .int p0), (2, .int p1), (3, .ref (ad 2000))]) hx hb d_L_order_20 hl (by decide) rfl (fun ls hl => ?_)
      refine lv_iconst (v := 1) hx hb d_L_order_22 (by decide) ?_
      exact m_iret (v := 1) hx hb hr hm (⟨ad, (I, J, F, si, tc, oc), f, fun _ _ => rfl, Prod.ext rfl (hG.trans (congrArg (gE dA ad I J F si tc oc) (va_upid hO).symm)), Or.inr (Or.inl ⟨rfl, hq, rfl⟩)⟩) d_L_order_23 hlocks
    · refine vx_catch (own := "EdgeWearLaw") (name := "java/lang/IllegalArgumentException") hown [⟨0, 17, 20, 13⟩] ⟨0, 17, 24, 15⟩ [] (htab.trans rfl) (List.forall_mem_cons.mpr ⟨Or.inr ⟨by decide, "java/lang/IndexOutOfBoundsException", hT _ k_122, hC.2.2.2.2.2.1⟩, fun _ h => absurd h List.not_mem_nil⟩) rfl (by decide) (hT _ k_123) (hC.2.2.2.use (w := .castable "java/lang/IllegalArgumentException" "java/lang/IllegalArgumentException") (by decide +kernel)) h7 h8 h9 ?_
      refine W.eq (g2 := F0 m 24 ls [.ref q9]) rfl ?_
      refine lv_astore (lv' := [(4, .ref q9), (0, .ref (ad 0)), (1, .int p0), (2, .int p1), (3, .ref (ad 2000))]) hx hb d_L_order_24 hl (by decide) rfl (fun ls hl => ?_)
      refine lv_iconst (v := 2) hx hb d_L_order_26 (by decide) ?_
      exact m_iret (v := 2) hx hb hr hm (⟨ad, (I, J, F, si, tc, oc), f, fun _ _ => rfl, Prod.ext rfl (hG.trans (congrArg (gE dA ad I J F si tc oc) (va_upid hO).symm)), Or.inr (Or.inr (⟨rfl, hq, rfl⟩))⟩) d_L_order_27 hlocks
  · obtain ⟨x1, had, hu9, hrel⟩ := kE_order ht ho w_2
    replace hu9 : G_3 = gEx dA ad_4 x1 G0 := hu9
    replace had : ∀ k, k = 0 ∨ 1000 ≤ k → ad_4 k = ad k := had
    have ho9 : G_3 2000 = some (.inl (dA 1, 1, .inr (.inl f))) := by
      rw [hu9]
      exact (gE_out (by decide)).trans hO
    refine lv_if_eq (tgt := 15) hx hb d_L_order_8 (by decide) (fun c_8 => ?_) (fun c_8 => ?_)
    · refine lv_lconst (v := 0) hx hb d_L_order_15 (by decide) ?_
      refine m_last hx hb hC.1 hm 2000 (had 2000 (Or.inr (by decide))).symm 1 ho9 rfl (vpc _ _ (by decide)) d_L_order_16 (fun H locs hm => ?_)
      obtain ⟨G_5, eG_5⟩ : ∃ z : mG, z = va_up G_3 2000 (some (.inl ((dA 1), 1, .inr (.inl (vp_updL f 0 0))))) := ⟨_, rfl⟩
      have hm : mS D mCl (mA ad G s.heap.size) s.heap ad_4 G_5 H locs := by rw [eG_5]; exact hm
      have g_6 : G_5 2000 = some (.inl ((dA 1), 1, .inr (.inl (vp_updL f 0 0)))) := by rw [eG_5, va_up_self]
      refine lv_goto (tgt := 28) hx hb d_L_order_17 (by decide) ?_
      refine lv_iconst (v := 0) hx hb d_L_order_28 (by decide) ?_
      exact m_iret (v := 0) hx hb hr hm (⟨ad_4, x1, vp_updL f 0 0, had, Prod.ext rfl (by
        show G_5 = _
        rw [eG_5, hu9, gE_up 2000 (by decide)]), Or.inl ⟨rfl, r_1, pk_uLs.trans (if_pos c_8).symm, hrel⟩⟩) d_L_order_29 hlocks
    · refine lv_lconst (v := 1) hx hb d_L_order_11 (by decide) ?_
      refine lv_goto (tgt := 16) hx hb d_L_order_12 (by decide) ?_
      refine m_last hx hb hC.1 hm 2000 (had 2000 (Or.inr (by decide))).symm 1 ho9 rfl (vpc _ _ (by decide)) d_L_order_16 (fun H locs hm => ?_)
      obtain ⟨G_7, eG_7⟩ : ∃ z : mG, z = va_up G_3 2000 (some (.inl ((dA 1), 1, .inr (.inl (vp_updL f 0 1))))) := ⟨_, rfl⟩
      have hm : mS D mCl (mA ad G s.heap.size) s.heap ad_4 G_7 H locs := by rw [eG_7]; exact hm
      have g_8 : G_7 2000 = some (.inl ((dA 1), 1, .inr (.inl (vp_updL f 0 1)))) := by rw [eG_7, va_up_self]
      refine lv_goto (tgt := 28) hx hb d_L_order_17 (by decide) ?_
      refine lv_iconst (v := 0) hx hb d_L_order_28 (by decide) ?_
      exact m_iret (v := 0) hx hb hr hm (⟨ad_4, x1, vp_updL f 0 1, had, Prod.ext rfl (by
        show G_7 = _
        rw [eG_7, hu9, gE_up 2000 (by decide)]), Or.inl ⟨rfl, r_1, pk_uLs.trans (if_neg c_8).symm, hrel⟩⟩) d_L_order_29 hlocks

set_option maxHeartbeats 4000000 in
set_option maxRecDepth 100000 in
theorem c_L_joined (l : Launch) (hlt : l.stackTraces = false) (D : va_G) (dA : Nat → ClassId) (ad : Nat → Nat) (G : mG) (sz : Nat) (I : Nat → Nat → Int32) (J : Nat → Nat → Int64) (F : Nat → Nat → Nat → Int32) (si : Nat → Nat) (tc oc : Nat) (G0 : mG) (hG : G = gE dA ad I J F si tc oc G0) (ht : tc ≤ 12) (ho : oc ≤ 16) (p0 p1 : Int32) (f : Nat → Int64) (hO : G0 2000 = some (.inl (dA 1, 1, .inr (.inl f)))) : Met l y_L_joined (.codeWith y_L_joined b_L_joined 5 (some .int) [(0, 10, 13, 13), (0, 10, 17, 15)] :: mBig) ({ frames := 8, cells := 2, slots := 12, locals := 127 }) (mPc [.ref (ad 0), .int p0, .int p1, .ref (ad 2000)] D mCl (mTys dA) mTx ad G sz) (mQi (fun (rv : Int32) (u : mU) => (∃ (ad1 : Nat → Nat) (x1 : eS) (f1 : Nat → Int64), (∀ k, k = 0 ∨ 1000 ≤ k → ad1 k = ad k) ∧ u = (ad1, gEx dA ad1 x1 (va_up G0 2000 (some (.inl (dA 1, 1, .inr (.inl f1)))))) ∧ R_L_joined I J F si tc oc p0 p1 rv (f1 0) x1)) D mCl ad G sz) 2 12 (mA ad G sz) := by
  refine va_MetW (cc := b_L_joined) (maxL := 5) (ret := (some .int)) (hh := [(0, 10, 13, 13), (0, 10, 17, 15)]) (by decide) rfl ?_
  intro p e s m args below meth c s₁ BB hml hv
  obtain ⟨rfl, hsz, hw0, hC⟩ := hv
  have hx := BB.exec
  have hb := BB.bytes
  have hr := BB.returns
  have hts := atoms_spec (ws := .codeWith y_L_joined b_L_joined 5 (some .int) [(0, 10, 13, 13), (0, 10, 17, 15)] :: mBig) BB.pre
  have hT : ∀ w ∈ mBig, w.before _ s = true := fun w h => hts w (List.mem_cons_of_mem _ h)
  have hown : s.vm.findClass "EdgeWearLaw" = some m.cls := findClass_of_methodNamed BB.named
  have htab := vx_table (x := y_L_joined) BB (hts _ List.mem_cons_self)
  have hlocks := BB.notSynchronized
  subst hsz
  have hm := mS.start hw0
  have hA : ∀ q : Nat, s.heap.size ≤ q → mA ad G s.heap.size q := fun q h => Or.inr h
  have hl := lv_entry ([.ref (ad 0), .int p0, .int p1, .ref (ad 2000)]) (n := 5) (Nat.le_of_ble_eq_true rfl)
  rw [lg_entry_eq]
  generalize (lg_sl ([.ref (ad 0), .int p0, .int p1, .ref (ad 2000)]) ++ List.replicate (5 - (lg_sl ([.ref (ad 0), .int p0, .int p1, .ref (ad 2000)])).length) Slot.unset).toArray = ls at hl ⊢
  have hl : lv_has ls 5 [(0, .ref (ad 0)), (1, .int p0), (2, .int p1), (3, .ref (ad 2000))] := hl
  refine lv_aload_n hx hb d_L_joined_0 rfl (lv_at hl 3 rfl) ?_
  refine lv_iconst (v := 0) hx hb d_L_joined_1 (by decide) ?_
  refine lv_aload_n hx hb d_L_joined_2 rfl (lv_at hl 0 rfl) ?_
  refine lv_iload_n hx hb d_L_joined_3 rfl (lv_at hl 1 rfl) ?_
  refine lv_iload_n hx hb d_L_joined_4 rfl (lv_at hl 2 rfl) ?_
  refine x_calli (x_runV (As := [.int p0, .int p1]) (rest := [.int 0, .ref (ad 2000)]) ⟨hx, hb, hml, hown, hts⟩ (c_E_joined l hlt D dA ad G s.heap.size I J F si tc oc G0 hG ht ho p0 p1) (cwV 2 hts (gV k_556 k_553 k_554 k_555 k_1) rfl rfl rfl (by decide +kernel) ⟨Nat.le_of_ble_eq_true rfl, Nat.le_of_ble_eq_true rfl⟩) hm hA hC 0 rfl ((congrFun hG 0).trans gE_c0) rfl rfl rfl hl.1 rfl (Nat.le_of_ble_eq_true rfl) d_L_joined_5 ⟨Nat.le_of_ble_eq_true rfl, Nat.le_of_ble_eq_true rfl⟩) hm hA (fun E ce q9 ad_4 G_3 H locs w_2 hm h7 h8 h9 => ?_) (fun r_1 ad_4 G_3 H locs w_2 hm => ?_)
  · obtain ⟨hpx, hu9⟩ := w_2
    obtain ⟨ea9, eg9⟩ := Prod.mk.inj hu9
    rw [ea9, eg9] at hm
    rcases hpx with ⟨rfl, hq⟩ | ⟨rfl, hq⟩
    · refine vx_catch (own := "EdgeWearLaw") (name := "java/lang/IndexOutOfBoundsException") hown [] ⟨0, 10, 13, 13⟩ [⟨0, 10, 17, 15⟩] (htab.trans rfl) (fun _ h => absurd h List.not_mem_nil) rfl (by decide) (hT _ k_122) (hC.2.2.2.use (w := .castable "java/lang/IndexOutOfBoundsException" "java/lang/IndexOutOfBoundsException") (by decide +kernel)) h7 h8 h9 ?_
      refine W.eq (g2 := F0 m 13 ls [.ref q9]) rfl ?_
      refine lv_astore (lv' := [(4, .ref q9), (0, .ref (ad 0)), (1, .int p0), (2, .int p1), (3, .ref (ad 2000))]) hx hb d_L_joined_13 hl (by decide) rfl (fun ls hl => ?_)
      refine lv_iconst (v := 1) hx hb d_L_joined_15 (by decide) ?_
      exact m_iret (v := 1) hx hb hr hm (⟨ad, (I, J, F, si, tc, oc), f, fun _ _ => rfl, Prod.ext rfl (hG.trans (congrArg (gE dA ad I J F si tc oc) (va_upid hO).symm)), Or.inr (Or.inl ⟨rfl, hq, rfl⟩)⟩) d_L_joined_16 hlocks
    · refine vx_catch (own := "EdgeWearLaw") (name := "java/lang/IllegalArgumentException") hown [⟨0, 10, 13, 13⟩] ⟨0, 10, 17, 15⟩ [] (htab.trans rfl) (List.forall_mem_cons.mpr ⟨Or.inr ⟨by decide, "java/lang/IndexOutOfBoundsException", hT _ k_122, hC.2.2.2.2.2.1⟩, fun _ h => absurd h List.not_mem_nil⟩) rfl (by decide) (hT _ k_123) (hC.2.2.2.use (w := .castable "java/lang/IllegalArgumentException" "java/lang/IllegalArgumentException") (by decide +kernel)) h7 h8 h9 ?_
      refine W.eq (g2 := F0 m 17 ls [.ref q9]) rfl ?_
      refine lv_astore (lv' := [(4, .ref q9), (0, .ref (ad 0)), (1, .int p0), (2, .int p1), (3, .ref (ad 2000))]) hx hb d_L_joined_17 hl (by decide) rfl (fun ls hl => ?_)
      refine lv_iconst (v := 2) hx hb d_L_joined_19 (by decide) ?_
      exact m_iret (v := 2) hx hb hr hm (⟨ad, (I, J, F, si, tc, oc), f, fun _ _ => rfl, Prod.ext rfl (hG.trans (congrArg (gE dA ad I J F si tc oc) (va_upid hO).symm)), Or.inr (Or.inr (⟨rfl, hq, rfl⟩))⟩) d_L_joined_20 hlocks
  · obtain ⟨x1, had, hu9, hrel⟩ := kE_joined ht ho w_2
    replace hu9 : G_3 = gEx dA ad_4 x1 G0 := hu9
    replace had : ∀ k, k = 0 ∨ 1000 ≤ k → ad_4 k = ad k := had
    have ho9 : G_3 2000 = some (.inl (dA 1, 1, .inr (.inl f))) := by
      rw [hu9]
      exact (gE_out (by decide)).trans hO
    refine lv_i2l hx hb d_L_joined_8 rfl ?_
    refine lv_topl (fun x_5 ex_5 => ?_)
    refine m_last hx hb hC.1 hm 2000 (had 2000 (Or.inr (by decide))).symm 1 ho9 rfl (vpc _ _ (by decide)) d_L_joined_9 (fun H locs hm => ?_)
    obtain ⟨G_6, eG_6⟩ : ∃ z : mG, z = va_up G_3 2000 (some (.inl ((dA 1), 1, .inr (.inl (vp_updL f 0 x_5))))) := ⟨_, rfl⟩
    have hm : mS D mCl (mA ad G s.heap.size) s.heap ad_4 G_6 H locs := by rw [eG_6]; exact hm
    have g_7 : G_6 2000 = some (.inl ((dA 1), 1, .inr (.inl (vp_updL f 0 x_5)))) := by rw [eG_6, va_up_self]
    refine lv_goto (tgt := 21) hx hb d_L_joined_10 (by decide) ?_
    refine lv_iconst (v := 0) hx hb d_L_joined_21 (by decide) ?_
    exact m_iret (v := 0) hx hb hr hm (⟨ad_4, x1, vp_updL f 0 x_5, had, Prod.ext rfl (by
      show G_6 = _
      rw [eG_6, hu9, gE_up 2000 (by decide)]), Or.inl ⟨rfl, r_1, pk_uLs.trans ex_5, hrel⟩⟩) d_L_joined_22 hlocks

set_option maxHeartbeats 4000000 in
set_option maxRecDepth 100000 in
theorem c_L_chip (l : Launch) (hlt : l.stackTraces = false) (D : va_G) (dA : Nat → ClassId) (ad : Nat → Nat) (G : mG) (sz : Nat) (I : Nat → Nat → Int32) (J : Nat → Nat → Int64) (F : Nat → Nat → Nat → Int32) (si : Nat → Nat) (tc oc : Nat) (G0 : mG) (hG : G = gE dA ad I J F si tc oc G0) (ht : tc ≤ 12) (p0 p1 p2 p3 : Int32) (ho : oc ≤ 16) (f : Nat → Int64) (hO : G0 2000 = some (.inl (dA 1, 1, .inr (.inl f)))) : Met l y_L_chip (.codeWith y_L_chip b_L_chip 7 (some .int) [(0, 14, 17, 13), (0, 14, 21, 15)] :: mBig) ({ frames := 7, cells := 1, slots := 6, locals := 111 }) (mPc [.ref (ad 0), .int p0, .int p1, .int p2, .int p3, .ref (ad 2000)] D mCl (mTys dA) mTx ad G sz) (mQi (fun (rv : Int32) (u : mU) => (∃ (ad1 : Nat → Nat) (x1 : eS) (f1 : Nat → Int64), (∀ k, k = 0 ∨ 1000 ≤ k → ad1 k = ad k) ∧ u = (ad1, gEx dA ad1 x1 (va_up G0 2000 (some (.inl (dA 1, 1, .inr (.inl f1)))))) ∧ R_L_chip I J F si tc oc p0 p1 p2 p3 rv (f1 0) x1)) D mCl ad G sz) 1 6 (mA ad G sz) := by
  refine va_MetW (cc := b_L_chip) (maxL := 7) (ret := (some .int)) (hh := [(0, 14, 17, 13), (0, 14, 21, 15)]) (by decide) rfl ?_
  intro p e s m args below meth c s₁ BB hml hv
  obtain ⟨rfl, hsz, hw0, hC⟩ := hv
  have hx := BB.exec
  have hb := BB.bytes
  have hr := BB.returns
  have hts := atoms_spec (ws := .codeWith y_L_chip b_L_chip 7 (some .int) [(0, 14, 17, 13), (0, 14, 21, 15)] :: mBig) BB.pre
  have hT : ∀ w ∈ mBig, w.before _ s = true := fun w h => hts w (List.mem_cons_of_mem _ h)
  have hown : s.vm.findClass "EdgeWearLaw" = some m.cls := findClass_of_methodNamed BB.named
  have htab := vx_table (x := y_L_chip) BB (hts _ List.mem_cons_self)
  have hlocks := BB.notSynchronized
  subst hsz
  have hm := mS.start hw0
  have hA : ∀ q : Nat, s.heap.size ≤ q → mA ad G s.heap.size q := fun q h => Or.inr h
  have hl := lv_entry ([.ref (ad 0), .int p0, .int p1, .int p2, .int p3, .ref (ad 2000)]) (n := 7) (Nat.le_of_ble_eq_true rfl)
  rw [lg_entry_eq]
  generalize (lg_sl ([.ref (ad 0), .int p0, .int p1, .int p2, .int p3, .ref (ad 2000)]) ++ List.replicate (7 - (lg_sl ([.ref (ad 0), .int p0, .int p1, .int p2, .int p3, .ref (ad 2000)])).length) Slot.unset).toArray = ls at hl ⊢
  have hl : lv_has ls 7 [(0, .ref (ad 0)), (1, .int p0), (2, .int p1), (3, .int p2), (4, .int p3), (5, .ref (ad 2000))] := hl
  refine lv_aload hx hb d_L_chip_0 (lv_at hl 5 rfl) ?_
  refine lv_iconst (v := 0) hx hb d_L_chip_2 (by decide) ?_
  refine lv_aload_n hx hb d_L_chip_3 rfl (lv_at hl 0 rfl) ?_
  refine lv_iload_n hx hb d_L_chip_4 rfl (lv_at hl 1 rfl) ?_
  refine lv_iload_n hx hb d_L_chip_5 rfl (lv_at hl 2 rfl) ?_
  refine lv_iload_n hx hb d_L_chip_6 rfl (lv_at hl 3 rfl) ?_
  refine lv_iload hx hb d_L_chip_7 (lv_at hl 4 rfl) ?_
  refine x_roi (x_runV (As := [.int p0, .int p1, .int p2, .int p3]) (rest := [.int 0, .ref (ad 2000)]) ⟨hx, hb, hml, hown, hts⟩ (c_E_chip l hlt D dA ad G s.heap.size I J F si tc oc G0 hG ht p0 p1 p2 p3) (cwV 4 hts (gV k_575 k_572 k_573 k_574 k_1) rfl rfl rfl (by decide +kernel) ⟨Nat.le_of_ble_eq_true rfl, Nat.le_of_ble_eq_true rfl⟩) hm hA hC 0 rfl ((congrFun hG 0).trans gE_c0) rfl rfl rfl hl.1 rfl (Nat.le_of_ble_eq_true rfl) d_L_chip_9 ⟨Nat.le_of_ble_eq_true rfl, Nat.le_of_ble_eq_true rfl⟩) hm hA (fun E ce q9 H locs w_2 hm h7 h8 h9 => ?_) (fun r_1 H locs w_2 hm => ?_)
  · have hpx := w_2
    rcases hpx with ⟨rfl, hq⟩ | ⟨rfl, hq⟩
    · refine vx_catch (own := "EdgeWearLaw") (name := "java/lang/IndexOutOfBoundsException") hown [] ⟨0, 14, 17, 13⟩ [⟨0, 14, 21, 15⟩] (htab.trans rfl) (fun _ h => absurd h List.not_mem_nil) rfl (by decide) (hT _ k_122) (hC.2.2.2.use (w := .castable "java/lang/IndexOutOfBoundsException" "java/lang/IndexOutOfBoundsException") (by decide +kernel)) h7 h8 h9 ?_
      refine W.eq (g2 := F0 m 17 ls [.ref q9]) rfl ?_
      refine lv_astore (lv' := [(6, .ref q9), (0, .ref (ad 0)), (1, .int p0), (2, .int p1), (3, .int p2), (4, .int p3), (5, .ref (ad 2000))]) hx hb d_L_chip_17 hl (by decide) rfl (fun ls hl => ?_)
      refine lv_iconst (v := 1) hx hb d_L_chip_19 (by decide) ?_
      exact m_iret (v := 1) hx hb hr hm (⟨ad, (I, J, F, si, tc, oc), f, fun _ _ => rfl, Prod.ext rfl (hG.trans (congrArg (gE dA ad I J F si tc oc) (va_upid hO).symm)), Or.inr (Or.inl ⟨rfl, hq, rfl⟩)⟩) d_L_chip_20 hlocks
    · refine vx_catch (own := "EdgeWearLaw") (name := "java/lang/IllegalArgumentException") hown [⟨0, 14, 17, 13⟩] ⟨0, 14, 21, 15⟩ [] (htab.trans rfl) (List.forall_mem_cons.mpr ⟨Or.inr ⟨by decide, "java/lang/IndexOutOfBoundsException", hT _ k_122, hC.2.2.2.2.2.1⟩, fun _ h => absurd h List.not_mem_nil⟩) rfl (by decide) (hT _ k_123) (hC.2.2.2.use (w := .castable "java/lang/IllegalArgumentException" "java/lang/IllegalArgumentException") (by decide +kernel)) h7 h8 h9 ?_
      refine W.eq (g2 := F0 m 21 ls [.ref q9]) rfl ?_
      refine lv_astore (lv' := [(6, .ref q9), (0, .ref (ad 0)), (1, .int p0), (2, .int p1), (3, .int p2), (4, .int p3), (5, .ref (ad 2000))]) hx hb d_L_chip_21 hl (by decide) rfl (fun ls hl => ?_)
      refine lv_iconst (v := 2) hx hb d_L_chip_23 (by decide) ?_
      exact m_iret (v := 2) hx hb hr hm (⟨ad, (I, J, F, si, tc, oc), f, fun _ _ => rfl, Prod.ext rfl (hG.trans (congrArg (gE dA ad I J F si tc oc) (va_upid hO).symm)), Or.inr (Or.inr (⟨rfl, hq, rfl⟩))⟩) d_L_chip_24 hlocks
  · have hrel : R_E_chip I J F si tc oc p0 p1 p2 p3 r_1 (I, J, F, si, tc, oc) := ⟨w_2, rfl⟩
    refine lv_i2l hx hb d_L_chip_12 rfl ?_
    refine lv_topl (fun x_3 ex_3 => ?_)
    refine m_last hx hb hC.1 hm 2000 rfl 1 (((congrFun hG 2000).trans (gE_out (by decide))).trans hO) rfl (vpc _ _ (by decide)) d_L_chip_13 (fun H locs hm => ?_)
    obtain ⟨G_4, eG_4⟩ : ∃ z : mG, z = va_up G 2000 (some (.inl ((dA 1), 1, .inr (.inl (vp_updL f 0 x_3))))) := ⟨_, rfl⟩
    have hm : mS D mCl (mA ad G s.heap.size) s.heap ad G_4 H locs := by rw [eG_4]; exact hm
    have g_5 := (congrFun eG_4 0).trans ((va_up_ne _ _ (by decide)).trans ((congrFun hG 0).trans gE_c0))
    have g_6 : G_4 2000 = some (.inl ((dA 1), 1, .inr (.inl (vp_updL f 0 x_3)))) := by rw [eG_4, va_up_self]
    refine lv_goto (tgt := 25) hx hb d_L_chip_14 (by decide) ?_
    refine lv_iconst (v := 0) hx hb d_L_chip_25 (by decide) ?_
    exact m_iret (v := 0) hx hb hr hm (⟨ad, (I, J, F, si, tc, oc), vp_updL f 0 x_3, fun _ _ => rfl, Prod.ext rfl (by
      show G_4 = _
      rw [eG_4, hG, gE_up 2000 (by decide)]), Or.inl ⟨rfl, r_1, pk_uLs.trans ex_3, hrel⟩⟩) d_L_chip_26 hlocks
