set_option maxHeartbeats 4000000 in
set_option maxRecDepth 100000 in
theorem c_L_tool (l : Launch) (hlt : l.stackTraces = false) (D : va_G) (dA : Nat → ClassId) (ad : Nat → Nat) (G : mG) (sz : Nat) (I : Nat → Nat → Int32) (J : Nat → Nat → Int64) (F : Nat → Nat → Nat → Int32) (si : Nat → Nat) (tc oc : Nat) (G0 : mG) (hG : G = gE dA ad I J F si tc oc G0) (ht : tc ≤ 12) (ho : oc ≤ 16) (hs : ∀ i, i < tc → si i < 4) (p0 p1 p2 : Int32) (f : Nat → Int64) (hO : G0 2000 = some (.inl (dA 1, 1, .inr (.inl f)))) : Met l y_L_tool (.codeWith y_L_tool b_L_tool 6 (some .int) [(0, 12, 15, 13), (0, 12, 19, 15), (0, 12, 23, 17)] :: mBig) ({ frames := 8, cells := 4, slots := 42, locals := 129 }) (mPc [.ref (ad 0), .int p0, .int p1, .int p2, .ref (ad 2000)] D mCl (mTys dA) mTx ad G sz) (mQi (fun (rv : Int32) (u : mU) => (∃ (ad1 : Nat → Nat) (x1 : eS) (f1 : Nat → Int64), (∀ k, k = 0 ∨ 1000 ≤ k → ad1 k = ad k) ∧ u = (ad1, gEx dA ad1 x1 (va_up G0 2000 (some (.inl (dA 1, 1, .inr (.inl f1)))))) ∧ R_L_tool I J F si tc oc p0 p1 p2 rv (f1 0) x1)) D mCl ad G sz) 4 42 (mA ad G sz) := by
  refine va_MetW (cc := b_L_tool) (maxL := 6) (ret := (some .int)) (hh := [(0, 12, 15, 13), (0, 12, 19, 15), (0, 12, 23, 17)]) (by decide) rfl ?_
  intro p e s m args below meth c s₁ BB hml hv
  obtain ⟨rfl, hsz, hw0, hC⟩ := hv
  have hx := BB.exec
  have hb := BB.bytes
  have hr := BB.returns
  have hts := atoms_spec (ws := .codeWith y_L_tool b_L_tool 6 (some .int) [(0, 12, 15, 13), (0, 12, 19, 15), (0, 12, 23, 17)] :: mBig) BB.pre
  have hT : ∀ w ∈ mBig, w.before _ s = true := fun w h => hts w (List.mem_cons_of_mem _ h)
  have hown : s.vm.findClass "EdgeWearLaw" = some m.cls := findClass_of_methodNamed BB.named
  have htab := vx_table (x := y_L_tool) BB (hts _ List.mem_cons_self)
  have hlocks := BB.notSynchronized
  subst hsz
  have hm := mS.start hw0
  have hA : ∀ q : Nat, s.heap.size ≤ q → mA ad G s.heap.size q := fun q h => Or.inr h
  have hl := lv_entry ([.ref (ad 0), .int p0, .int p1, .int p2, .ref (ad 2000)]) (n := 6) (Nat.le_of_ble_eq_true rfl)
  rw [lg_entry_eq]
  generalize (lg_sl ([.ref (ad 0), .int p0, .int p1, .int p2, .ref (ad 2000)]) ++ List.replicate (6 - (lg_sl ([.ref (ad 0), .int p0, .int p1, .int p2, .ref (ad 2000)])).length) Slot.unset).toArray = ls at hl ⊢
  have hl : lv_has ls 6 [(0, .ref (ad 0)), (1, .int p0), (2, .int p1), (3, .int p2), (4, .ref (ad 2000))] := hl
  refine lv_aload hx hb d_L_tool_0 (lv_at hl 4 rfl) ?_
  refine lv_iconst (v := 0) hx hb d_L_tool_2 (by decide) ?_
  refine lv_aload_n hx hb d_L_tool_3 rfl (lv_at hl 0 rfl) ?_
  refine lv_iload_n hx hb d_L_tool_4 rfl (lv_at hl 1 rfl) ?_
  refine lv_iload_n hx hb d_L_tool_5 rfl (lv_at hl 2 rfl) ?_
  refine lv_iload_n hx hb d_L_tool_6 rfl (lv_at hl 3 rfl) ?_
  refine x_calli (x_runV (As := [.int p0, .int p1, .int p2]) (rest := [.int 0, .ref (ad 2000)]) ⟨hx, hb, hml, hown, hts⟩ (c_E_tool l hlt D dA ad G s.heap.size I J F si tc oc G0 hG ht ho hs p0 p1 p2) (cwV 3 hts (gV k_128 k_125 k_126 k_127 k_1) rfl rfl rfl (by decide +kernel) ⟨Nat.le_of_ble_eq_true rfl, Nat.le_of_ble_eq_true rfl⟩) hm hA hC 0 rfl ((congrFun hG 0).trans gE_c0) rfl rfl rfl hl.1 rfl (Nat.le_of_ble_eq_true rfl) d_L_tool_7 ⟨Nat.le_of_ble_eq_true rfl, Nat.le_of_ble_eq_true rfl⟩) hm hA (fun E ce q9 ad_4 G_3 H locs w_2 hm h7 h8 h9 => ?_) (fun r_1 ad_4 G_3 H locs w_2 hm => ?_)
  · obtain ⟨hpx, hu9⟩ := w_2
    obtain ⟨ea9, eg9⟩ := Prod.mk.inj hu9
    rw [ea9, eg9] at hm
    rcases hpx with ⟨rfl, hq⟩ | ⟨rfl, hq⟩ | ⟨rfl, hq⟩
    · refine vx_catch (own := "EdgeWearLaw") (name := "java/lang/IndexOutOfBoundsException") hown [] ⟨0, 12, 15, 13⟩ [⟨0, 12, 19, 15⟩, ⟨0, 12, 23, 17⟩] (htab.trans rfl) (fun _ h => absurd h List.not_mem_nil) rfl (by decide) (hT _ k_122) (hC.2.2.2.use (w := .castable "java/lang/IndexOutOfBoundsException" "java/lang/IndexOutOfBoundsException") (by decide +kernel)) h7 h8 h9 ?_
      refine W.eq (g2 := F0 m 15 ls [.ref q9]) rfl ?_
      refine lv_astore (lv' := [(5, .ref q9), (0, .ref (ad 0)), (1, .int p0), (2, .int p1), (3, .int p2), (4, .ref (ad 2000))]) hx hb d_L_tool_15 hl (by decide) rfl (fun ls hl => ?_)
      refine lv_iconst (v := 1) hx hb d_L_tool_17 (by decide) ?_
      exact m_iret (v := 1) hx hb hr hm (⟨ad, (I, J, F, si, tc, oc), f, fun _ _ => rfl, Prod.ext rfl (hG.trans (congrArg (gE dA ad I J F si tc oc) (va_upid hO).symm)), Or.inr (Or.inl ⟨rfl, hq, rfl⟩)⟩) d_L_tool_18 hlocks
    · refine vx_catch (own := "EdgeWearLaw") (name := "java/lang/IllegalArgumentException") hown [⟨0, 12, 15, 13⟩] ⟨0, 12, 19, 15⟩ [⟨0, 12, 23, 17⟩] (htab.trans rfl) (List.forall_mem_cons.mpr ⟨Or.inr ⟨by decide, "java/lang/IndexOutOfBoundsException", hT _ k_122, hC.2.2.2.2.2.1⟩, fun _ h => absurd h List.not_mem_nil⟩) rfl (by decide) (hT _ k_123) (hC.2.2.2.use (w := .castable "java/lang/IllegalArgumentException" "java/lang/IllegalArgumentException") (by decide +kernel)) h7 h8 h9 ?_
      refine W.eq (g2 := F0 m 19 ls [.ref q9]) rfl ?_
      refine lv_astore (lv' := [(5, .ref q9), (0, .ref (ad 0)), (1, .int p0), (2, .int p1), (3, .int p2), (4, .ref (ad 2000))]) hx hb d_L_tool_19 hl (by decide) rfl (fun ls hl => ?_)
      refine lv_iconst (v := 2) hx hb d_L_tool_21 (by decide) ?_
      exact m_iret (v := 2) hx hb hr hm (⟨ad, (I, J, F, si, tc, oc), f, fun _ _ => rfl, Prod.ext rfl (hG.trans (congrArg (gE dA ad I J F si tc oc) (va_upid hO).symm)), Or.inr (Or.inr (Or.inl ⟨rfl, hq, rfl⟩))⟩) d_L_tool_22 hlocks
    · refine vx_catch (own := "EdgeWearLaw") (name := "java/lang/IllegalStateException") hown [⟨0, 12, 15, 13⟩, ⟨0, 12, 19, 15⟩] ⟨0, 12, 23, 17⟩ [] (htab.trans rfl) (List.forall_mem_cons.mpr ⟨Or.inr ⟨by decide, "java/lang/IndexOutOfBoundsException", hT _ k_122, hC.2.2.2.2.2.2.1⟩, List.forall_mem_cons.mpr ⟨Or.inr ⟨by decide, "java/lang/IllegalArgumentException", hT _ k_123, hC.2.2.2.2.2.2.2⟩, fun _ h => absurd h List.not_mem_nil⟩⟩) rfl (by decide) (hT _ k_124) (hC.2.2.2.use (w := .castable "java/lang/IllegalStateException" "java/lang/IllegalStateException") (by decide +kernel)) h7 h8 h9 ?_
      refine W.eq (g2 := F0 m 23 ls [.ref q9]) rfl ?_
      refine lv_astore (lv' := [(5, .ref q9), (0, .ref (ad 0)), (1, .int p0), (2, .int p1), (3, .int p2), (4, .ref (ad 2000))]) hx hb d_L_tool_23 hl (by decide) rfl (fun ls hl => ?_)
      refine lv_iconst (v := 3) hx hb d_L_tool_25 (by decide) ?_
      exact m_iret (v := 3) hx hb hr hm (⟨ad, (I, J, F, si, tc, oc), f, fun _ _ => rfl, Prod.ext rfl (hG.trans (congrArg (gE dA ad I J F si tc oc) (va_upid hO).symm)), Or.inr (Or.inr (Or.inr (⟨rfl, hq, rfl⟩)))⟩) d_L_tool_26 hlocks
  · obtain ⟨x1, had, hu9, hrel⟩ := kE_tool ht ho w_2
    replace hu9 : G_3 = gEx dA ad_4 x1 G0 := hu9
    replace had : ∀ k, k = 0 ∨ 1000 ≤ k → ad_4 k = ad k := had
    have ho9 : G_3 2000 = some (.inl (dA 1, 1, .inr (.inl f))) := by
      rw [hu9]
      exact (gE_out (by decide)).trans hO
    refine lv_i2l hx hb d_L_tool_10 rfl ?_
    refine lv_topl (fun x_5 ex_5 => ?_)
    refine m_last hx hb hC.1 hm 2000 (had 2000 (Or.inr (by decide))).symm 1 ho9 rfl (vpc _ _ (by decide)) d_L_tool_11 (fun H locs hm => ?_)
    obtain ⟨G_6, eG_6⟩ : ∃ z : mG, z = va_up G_3 2000 (some (.inl ((dA 1), 1, .inr (.inl (vp_updL f 0 x_5))))) := ⟨_, rfl⟩
    have hm : mS D mCl (mA ad G s.heap.size) s.heap ad_4 G_6 H locs := by rw [eG_6]; exact hm
    have g_7 : G_6 2000 = some (.inl ((dA 1), 1, .inr (.inl (vp_updL f 0 x_5)))) := by rw [eG_6, va_up_self]
    refine lv_goto (tgt := 27) hx hb d_L_tool_12 (by decide) ?_
    refine lv_iconst (v := 0) hx hb d_L_tool_27 (by decide) ?_
    exact m_iret (v := 0) hx hb hr hm (⟨ad_4, x1, vp_updL f 0 x_5, had, Prod.ext rfl (by
      show G_6 = _
      rw [eG_6, hu9, gE_up 2000 (by decide)]), Or.inl ⟨rfl, r_1, pk_uLs.trans ex_5, hrel⟩⟩) d_L_tool_28 hlocks

set_option maxHeartbeats 4000000 in
set_option maxRecDepth 100000 in
theorem c_L_rate (l : Launch) (hlt : l.stackTraces = false) (D : va_G) (dA : Nat → ClassId) (ad : Nat → Nat) (G : mG) (sz : Nat) (I : Nat → Nat → Int32) (J : Nat → Nat → Int64) (F : Nat → Nat → Nat → Int32) (si : Nat → Nat) (tc oc : Nat) (G0 : mG) (hG : G = gE dA ad I J F si tc oc G0) (ht : tc ≤ 12) (p0 p1 p2 : Int32) (ho : oc ≤ 16) : Met l y_L_rate (.codeWith y_L_rate b_L_rate 5 (some .int) [(0, 7, 10, 13), (0, 7, 14, 15)] :: mBig) ({ frames := 8, cells := 2, slots := 12, locals := 127 }) (mPc [.ref (ad 0), .int p0, .int p1, .int p2] D mCl (mTys dA) mTx ad G sz) (mQi (fun (rv : Int32) (u : mU) => (∃ (ad1 : Nat → Nat) (x1 : eS), (∀ k, k = 0 ∨ 1000 ≤ k → ad1 k = ad k) ∧ u = (ad1, gEx dA ad1 x1 G0) ∧ R_L_rate I J F si tc oc p0 p1 p2 rv x1)) D mCl ad G sz) 2 12 (mA ad G sz) := by
  refine va_MetW (cc := b_L_rate) (maxL := 5) (ret := (some .int)) (hh := [(0, 7, 10, 13), (0, 7, 14, 15)]) (by decide) rfl ?_
  intro p e s m args below meth c s₁ BB hml hv
  obtain ⟨rfl, hsz, hw0, hC⟩ := hv
  have hx := BB.exec
  have hb := BB.bytes
  have hr := BB.returns
  have hts := atoms_spec (ws := .codeWith y_L_rate b_L_rate 5 (some .int) [(0, 7, 10, 13), (0, 7, 14, 15)] :: mBig) BB.pre
  have hT : ∀ w ∈ mBig, w.before _ s = true := fun w h => hts w (List.mem_cons_of_mem _ h)
  have hown : s.vm.findClass "EdgeWearLaw" = some m.cls := findClass_of_methodNamed BB.named
  have htab := vx_table (x := y_L_rate) BB (hts _ List.mem_cons_self)
  have hlocks := BB.notSynchronized
  subst hsz
  have hm := mS.start hw0
  have hA : ∀ q : Nat, s.heap.size ≤ q → mA ad G s.heap.size q := fun q h => Or.inr h
  have hl := lv_entry ([.ref (ad 0), .int p0, .int p1, .int p2]) (n := 5) (Nat.le_of_ble_eq_true rfl)
  rw [lg_entry_eq]
  generalize (lg_sl ([.ref (ad 0), .int p0, .int p1, .int p2]) ++ List.replicate (5 - (lg_sl ([.ref (ad 0), .int p0, .int p1, .int p2])).length) Slot.unset).toArray = ls at hl ⊢
  have hl : lv_has ls 5 [(0, .ref (ad 0)), (1, .int p0), (2, .int p1), (3, .int p2)] := hl
  refine lv_aload_n hx hb d_L_rate_0 rfl (lv_at hl 0 rfl) ?_
  refine lv_iload_n hx hb d_L_rate_1 rfl (lv_at hl 1 rfl) ?_
  refine lv_iload_n hx hb d_L_rate_2 rfl (lv_at hl 2 rfl) ?_
  refine lv_iload_n hx hb d_L_rate_3 rfl (lv_at hl 3 rfl) ?_
  refine x_callv (x_runV (As := [.int p0, .int p1, .int p2]) (rest := []) ⟨hx, hb, hml, hown, hts⟩ (c_E_rate l hlt D dA ad G s.heap.size I J F si tc oc G0 hG ht p0 p1 p2) (cwV 3 hts (gV k_298 k_295 k_296 k_297 k_1) rfl rfl rfl (by decide +kernel) ⟨Nat.le_of_ble_eq_true rfl, Nat.le_of_ble_eq_true rfl⟩) hm hA hC 0 rfl ((congrFun hG 0).trans gE_c0) rfl rfl rfl hl.1 rfl (Nat.le_of_ble_eq_true rfl) d_L_rate_4 ⟨Nat.le_of_ble_eq_true rfl, Nat.le_of_ble_eq_true rfl⟩) hm hA (fun E ce q9 ad_4 G_3 H locs w_2 hm h7 h8 h9 => ?_) (fun ad_4 G_3 H locs w_2 hm => ?_)
  · obtain ⟨hpx, hu9⟩ := w_2
    obtain ⟨ea9, eg9⟩ := Prod.mk.inj hu9
    rw [ea9, eg9] at hm
    rcases hpx with ⟨rfl, hq⟩ | ⟨rfl, hq⟩
    · refine vx_catch (own := "EdgeWearLaw") (name := "java/lang/IndexOutOfBoundsException") hown [] ⟨0, 7, 10, 13⟩ [⟨0, 7, 14, 15⟩] (htab.trans rfl) (fun _ h => absurd h List.not_mem_nil) rfl (by decide) (hT _ k_122) (hC.2.2.2.use (w := .castable "java/lang/IndexOutOfBoundsException" "java/lang/IndexOutOfBoundsException") (by decide +kernel)) h7 h8 h9 ?_
      refine W.eq (g2 := F0 m 10 ls [.ref q9]) rfl ?_
      refine lv_astore (lv' := [(4, .ref q9), (0, .ref (ad 0)), (1, .int p0), (2, .int p1), (3, .int p2)]) hx hb d_L_rate_10 hl (by decide) rfl (fun ls hl => ?_)
      refine lv_iconst (v := 1) hx hb d_L_rate_12 (by decide) ?_
      exact m_iret (v := 1) hx hb hr hm (⟨ad, (I, J, F, si, tc, oc), fun _ _ => rfl, Prod.ext rfl hG, Or.inr (Or.inl ⟨rfl, hq, rfl⟩)⟩) d_L_rate_13 hlocks
    · refine vx_catch (own := "EdgeWearLaw") (name := "java/lang/IllegalArgumentException") hown [⟨0, 7, 10, 13⟩] ⟨0, 7, 14, 15⟩ [] (htab.trans rfl) (List.forall_mem_cons.mpr ⟨Or.inr ⟨by decide, "java/lang/IndexOutOfBoundsException", hT _ k_122, hC.2.2.2.2.2.1⟩, fun _ h => absurd h List.not_mem_nil⟩) rfl (by decide) (hT _ k_123) (hC.2.2.2.use (w := .castable "java/lang/IllegalArgumentException" "java/lang/IllegalArgumentException") (by decide +kernel)) h7 h8 h9 ?_
      refine W.eq (g2 := F0 m 14 ls [.ref q9]) rfl ?_
      refine lv_astore (lv' := [(4, .ref q9), (0, .ref (ad 0)), (1, .int p0), (2, .int p1), (3, .int p2)]) hx hb d_L_rate_14 hl (by decide) rfl (fun ls hl => ?_)
      refine lv_iconst (v := 2) hx hb d_L_rate_16 (by decide) ?_
      exact m_iret (v := 2) hx hb hr hm (⟨ad, (I, J, F, si, tc, oc), fun _ _ => rfl, Prod.ext rfl hG, Or.inr (Or.inr (⟨rfl, hq, rfl⟩))⟩) d_L_rate_17 hlocks
  · obtain ⟨x1, had, hu9, hrel⟩ := kE_rate ht ho w_2
    replace hu9 : G_3 = gEx dA ad_4 x1 G0 := hu9
    replace had : ∀ k, k = 0 ∨ 1000 ≤ k → ad_4 k = ad k := had
    refine lv_goto (tgt := 18) hx hb d_L_rate_7 (by decide) ?_
    refine lv_iconst (v := 0) hx hb d_L_rate_18 (by decide) ?_
    exact m_iret (v := 0) hx hb hr hm (⟨ad_4, x1, had, Prod.ext rfl hu9, Or.inl ⟨rfl, hrel⟩⟩) d_L_rate_19 hlocks

set_option maxHeartbeats 4000000 in
set_option maxRecDepth 100000 in
theorem c_L_limit (l : Launch) (hlt : l.stackTraces = false) (D : va_G) (dA : Nat → ClassId) (ad : Nat → Nat) (G : mG) (sz : Nat) (I : Nat → Nat → Int32) (J : Nat → Nat → Int64) (F : Nat → Nat → Nat → Int32) (si : Nat → Nat) (tc oc : Nat) (G0 : mG) (hG : G = gE dA ad I J F si tc oc G0) (ht : tc ≤ 12) (p0 : Int32) (p1 : Int64) (ho : oc ≤ 16) : Met l y_L_limit (.codeWith y_L_limit b_L_limit 5 (some .int) [(0, 6, 9, 13), (0, 6, 13, 15)] :: mBig) ({ frames := 8, cells := 2, slots := 12, locals := 128 }) (mPc [.ref (ad 0), .int p0, .long p1] D mCl (mTys dA) mTx ad G sz) (mQi (fun (rv : Int32) (u : mU) => (∃ (ad1 : Nat → Nat) (x1 : eS), (∀ k, k = 0 ∨ 1000 ≤ k → ad1 k = ad k) ∧ u = (ad1, gEx dA ad1 x1 G0) ∧ R_L_limit I J F si tc oc p0 p1 rv x1)) D mCl ad G sz) 2 12 (mA ad G sz) := by
  refine va_MetW (cc := b_L_limit) (maxL := 5) (ret := (some .int)) (hh := [(0, 6, 9, 13), (0, 6, 13, 15)]) (by decide) rfl ?_
  intro p e s m args below meth c s₁ BB hml hv
  obtain ⟨rfl, hsz, hw0, hC⟩ := hv
  have hx := BB.exec
  have hb := BB.bytes
  have hr := BB.returns
  have hts := atoms_spec (ws := .codeWith y_L_limit b_L_limit 5 (some .int) [(0, 6, 9, 13), (0, 6, 13, 15)] :: mBig) BB.pre
  have hT : ∀ w ∈ mBig, w.before _ s = true := fun w h => hts w (List.mem_cons_of_mem _ h)
  have hown : s.vm.findClass "EdgeWearLaw" = some m.cls := findClass_of_methodNamed BB.named
  have htab := vx_table (x := y_L_limit) BB (hts _ List.mem_cons_self)
  have hlocks := BB.notSynchronized
  subst hsz
  have hm := mS.start hw0
  have hA : ∀ q : Nat, s.heap.size ≤ q → mA ad G s.heap.size q := fun q h => Or.inr h
  have hl := lv_entry ([.ref (ad 0), .int p0, .long p1]) (n := 5) (Nat.le_of_ble_eq_true rfl)
  rw [lg_entry_eq]
  generalize (lg_sl ([.ref (ad 0), .int p0, .long p1]) ++ List.replicate (5 - (lg_sl ([.ref (ad 0), .int p0, .long p1])).length) Slot.unset).toArray = ls at hl ⊢
  have hl : lv_has ls 5 [(0, .ref (ad 0)), (1, .int p0), (2, .long p1)] := hl
  refine lv_aload_n hx hb d_L_limit_0 rfl (lv_at hl 0 rfl) ?_
  refine lv_iload_n hx hb d_L_limit_1 rfl (lv_at hl 1 rfl) ?_
  refine lv_lload_n hx hb d_L_limit_2 rfl (lv_at hl 2 rfl) ?_
  refine x_callv (x_runV (As := [.int p0, .long p1]) (rest := []) ⟨hx, hb, hml, hown, hts⟩ (c_E_limit l hlt D dA ad G s.heap.size I J F si tc oc G0 hG ht p0 p1) (cwV 2 hts (gV k_310 k_307 k_308 k_309 k_1) rfl rfl rfl (by decide +kernel) ⟨Nat.le_of_ble_eq_true rfl, Nat.le_of_ble_eq_true rfl⟩) hm hA hC 0 rfl ((congrFun hG 0).trans gE_c0) rfl rfl rfl hl.1 rfl (Nat.le_of_ble_eq_true rfl) d_L_limit_3 ⟨Nat.le_of_ble_eq_true rfl, Nat.le_of_ble_eq_true rfl⟩) hm hA (fun E ce q9 ad_4 G_3 H locs w_2 hm h7 h8 h9 => ?_) (fun ad_4 G_3 H locs w_2 hm => ?_)
  · obtain ⟨hpx, hu9⟩ := w_2
    obtain ⟨ea9, eg9⟩ := Prod.mk.inj hu9
    rw [ea9, eg9] at hm
    rcases hpx with ⟨rfl, hq⟩ | ⟨rfl, hq⟩
    · refine vx_catch (own := "EdgeWearLaw") (name := "java/lang/IndexOutOfBoundsException") hown [] ⟨0, 6, 9, 13⟩ [⟨0, 6, 13, 15⟩] (htab.trans rfl) (fun _ h => absurd h List.not_mem_nil) rfl (by decide) (hT _ k_122) (hC.2.2.2.use (w := .castable "java/lang/IndexOutOfBoundsException" "java/lang/IndexOutOfBoundsException") (by decide +kernel)) h7 h8 h9 ?_
      refine W.eq (g2 := F0 m 9 ls [.ref q9]) rfl ?_
      refine lv_astore (lv' := [(4, .ref q9), (0, .ref (ad 0)), (1, .int p0), (2, .long p1)]) hx hb d_L_limit_9 hl (by decide) rfl (fun ls hl => ?_)
      refine lv_iconst (v := 1) hx hb d_L_limit_11 (by decide) ?_
      exact m_iret (v := 1) hx hb hr hm (⟨ad, (I, J, F, si, tc, oc), fun _ _ => rfl, Prod.ext rfl hG, Or.inr (Or.inl ⟨rfl, hq, rfl⟩)⟩) d_L_limit_12 hlocks
    · refine vx_catch (own := "EdgeWearLaw") (name := "java/lang/IllegalArgumentException") hown [⟨0, 6, 9, 13⟩] ⟨0, 6, 13, 15⟩ [] (htab.trans rfl) (List.forall_mem_cons.mpr ⟨Or.inr ⟨by decide, "java/lang/IndexOutOfBoundsException", hT _ k_122, hC.2.2.2.2.2.1⟩, fun _ h => absurd h List.not_mem_nil⟩) rfl (by decide) (hT _ k_123) (hC.2.2.2.use (w := .castable "java/lang/IllegalArgumentException" "java/lang/IllegalArgumentException") (by decide +kernel)) h7 h8 h9 ?_
      refine W.eq (g2 := F0 m 13 ls [.ref q9]) rfl ?_
      refine lv_astore (lv' := [(4, .ref q9), (0, .ref (ad 0)), (1, .int p0), (2, .long p1)]) hx hb d_L_limit_13 hl (by decide) rfl (fun ls hl => ?_)
      refine lv_iconst (v := 2) hx hb d_L_limit_15 (by decide) ?_
      exact m_iret (v := 2) hx hb hr hm (⟨ad, (I, J, F, si, tc, oc), fun _ _ => rfl, Prod.ext rfl hG, Or.inr (Or.inr (⟨rfl, hq, rfl⟩))⟩) d_L_limit_16 hlocks
  · obtain ⟨x1, had, hu9, hrel⟩ := kE_limit ht ho w_2
    replace hu9 : G_3 = gEx dA ad_4 x1 G0 := hu9
    replace had : ∀ k, k = 0 ∨ 1000 ≤ k → ad_4 k = ad k := had
    refine lv_goto (tgt := 17) hx hb d_L_limit_6 (by decide) ?_
    refine lv_iconst (v := 0) hx hb d_L_limit_17 (by decide) ?_
    exact m_iret (v := 0) hx hb hr hm (⟨ad_4, x1, had, Prod.ext rfl hu9, Or.inl ⟨rfl, hrel⟩⟩) d_L_limit_18 hlocks

set_option maxHeartbeats 4000000 in
set_option maxRecDepth 100000 in
theorem c_L_use (l : Launch) (hlt : l.stackTraces = false) (D : va_G) (dA : Nat → ClassId) (ad : Nat → Nat) (G : mG) (sz : Nat) (I : Nat → Nat → Int32) (J : Nat → Nat → Int64) (F : Nat → Nat → Nat → Int32) (si : Nat → Nat) (tc oc : Nat) (G0 : mG) (hG : G = gE dA ad I J F si tc oc G0) (ht : tc ≤ 12) (hs : ∀ i, i < tc → si i < 4) (p0 p1 p2 p3 : Int32) (ho : oc ≤ 16) (f : Nat → Int64) (hO : G0 2000 = some (.inl (dA 1, 1, .inr (.inl f)))) : Met l y_L_use (.codeWith y_L_use b_L_use 7 (some .int) [(0, 21, 24, 13), (0, 21, 28, 15), (0, 21, 32, 17)] :: mBig) ({ frames := 8, cells := 3, slots := 18, locals := 130 }) (mPc [.ref (ad 0), .int p0, .int p1, .int p2, .int p3, .ref (ad 2000)] D mCl (mTys dA) mTx ad G sz) (mQi (fun (rv : Int32) (u : mU) => (∃ (ad1 : Nat → Nat) (x1 : eS) (f1 : Nat → Int64), (∀ k, k = 0 ∨ 1000 ≤ k → ad1 k = ad k) ∧ u = (ad1, gEx dA ad1 x1 (va_up G0 2000 (some (.inl (dA 1, 1, .inr (.inl f1)))))) ∧ R_L_use I J F si tc oc p0 p1 p2 p3 rv (f1 0) x1)) D mCl ad G sz) 3 18 (mA ad G sz) := by
  refine va_MetW (cc := b_L_use) (maxL := 7) (ret := (some .int)) (hh := [(0, 21, 24, 13), (0, 21, 28, 15), (0, 21, 32, 17)]) (by decide) rfl ?_
  intro p e s m args below meth c s₁ BB hml hv
  obtain ⟨rfl, hsz, hw0, hC⟩ := hv
  have hx := BB.exec
  have hb := BB.bytes
  have hr := BB.returns
  have hts := atoms_spec (ws := .codeWith y_L_use b_L_use 7 (some .int) [(0, 21, 24, 13), (0, 21, 28, 15), (0, 21, 32, 17)] :: mBig) BB.pre
  have hT : ∀ w ∈ mBig, w.before _ s = true := fun w h => hts w (List.mem_cons_of_mem _ h)
  have hown : s.vm.findClass "EdgeWearLaw" = some m.cls := findClass_of_methodNamed BB.named
  have htab := vx_table (x := y_L_use) BB (hts _ List.mem_cons_self)
  have hlocks := BB.notSynchronized
  subst hsz
  have hm := mS.start hw0
  have hA : ∀ q : Nat, s.heap.size ≤ q → mA ad G s.heap.size q := fun q h => Or.inr h
  have hl := lv_entry ([.ref (ad 0), .int p0, .int p1, .int p2, .int p3, .ref (ad 2000)]) (n := 7) (Nat.le_of_ble_eq_true rfl)
  rw [lg_entry_eq]
  generalize (lg_sl ([.ref (ad 0), .int p0, .int p1, .int p2, .int p3, .ref (ad 2000)]) ++ List.replicate (7 - (lg_sl ([.ref (ad 0), .int p0, .int p1, .int p2, .int p3, .ref (ad 2000)])).length) Slot.unset).toArray = ls at hl ⊢
  have hl : lv_has ls 7 [(0, .ref (ad 0)), (1, .int p0), (2, .int p1), (3, .int p2), (4, .int p3), (5, .ref (ad 2000))] := hl
  refine lv_aload hx hb d_L_use_0 (lv_at hl 5 rfl) ?_
  refine lv_iconst (v := 0) hx hb d_L_use_2 (by decide) ?_
  refine lv_aload_n hx hb d_L_use_3 rfl (lv_at hl 0 rfl) ?_
  refine lv_iload_n hx hb d_L_use_4 rfl (lv_at hl 1 rfl) ?_
  refine lv_iload_n hx hb d_L_use_5 rfl (lv_at hl 2 rfl) ?_
  refine lv_iload_n hx hb d_L_use_6 rfl (lv_at hl 3 rfl) ?_
  refine lv_iload hx hb d_L_use_7 (lv_at hl 4 rfl) ?_
  refine x_calli (x_runV (As := [.int p0, .int p1, .int p2, .int p3]) (rest := [.int 0, .ref (ad 2000)]) ⟨hx, hb, hml, hown, hts⟩ (c_E_use l hlt D dA ad G s.heap.size I J F si tc oc G0 hG ht hs p0 p1 p2 p3) (cwV 4 hts (gV k_319 k_316 k_317 k_318 k_1) rfl rfl rfl (by decide +kernel) ⟨Nat.le_of_ble_eq_true rfl, Nat.le_of_ble_eq_true rfl⟩) hm hA hC 0 rfl ((congrFun hG 0).trans gE_c0) rfl rfl rfl hl.1 rfl (Nat.le_of_ble_eq_true rfl) d_L_use_9 ⟨Nat.le_of_ble_eq_true rfl, Nat.le_of_ble_eq_true rfl⟩) hm hA (fun E ce q9 ad_4 G_3 H locs w_2 hm h7 h8 h9 => ?_) (fun r_1 ad_4 G_3 H locs w_2 hm => ?_)
  · obtain ⟨hpx, hu9⟩ := w_2
    obtain ⟨ea9, eg9⟩ := Prod.mk.inj hu9
    rw [ea9, eg9] at hm
    rcases hpx with ⟨rfl, hq⟩ | ⟨rfl, hq⟩ | ⟨rfl, hq⟩
    · refine vx_catch (own := "EdgeWearLaw") (name := "java/lang/IndexOutOfBoundsException") hown [] ⟨0, 21, 24, 13⟩ [⟨0, 21, 28, 15⟩, ⟨0, 21, 32, 17⟩] (htab.trans rfl) (fun _ h => absurd h List.not_mem_nil) rfl (by decide) (hT _ k_122) (hC.2.2.2.use (w := .castable "java/lang/IndexOutOfBoundsException" "java/lang/IndexOutOfBoundsException") (by decide +kernel)) h7 h8 h9 ?_
      refine W.eq (g2 := F0 m 24 ls [.ref q9]) rfl ?_
      refine lv_astore (lv' := [(6, .ref q9), (0, .ref (ad 0)), (1, .int p0), (2, .int p1), (3, .int p2), (4, .int p3), (5, .ref (ad 2000))]) hx hb d_L_use_24 hl (by decide) rfl (fun ls hl => ?_)
      refine lv_iconst (v := 1) hx hb d_L_use_26 (by decide) ?_
      exact m_iret (v := 1) hx hb hr hm (⟨ad, (I, J, F, si, tc, oc), f, fun _ _ => rfl, Prod.ext rfl (hG.trans (congrArg (gE dA ad I J F si tc oc) (va_upid hO).symm)), Or.inr (Or.inl ⟨rfl, hq, rfl⟩)⟩) d_L_use_27 hlocks
    · refine vx_catch (own := "EdgeWearLaw") (name := "java/lang/IllegalArgumentException") hown [⟨0, 21, 24, 13⟩] ⟨0, 21, 28, 15⟩ [⟨0, 21, 32, 17⟩] (htab.trans rfl) (List.forall_mem_cons.mpr ⟨Or.inr ⟨by decide, "java/lang/IndexOutOfBoundsException", hT _ k_122, hC.2.2.2.2.2.1⟩, fun _ h => absurd h List.not_mem_nil⟩) rfl (by decide) (hT _ k_123) (hC.2.2.2.use (w := .castable "java/lang/IllegalArgumentException" "java/lang/IllegalArgumentException") (by decide +kernel)) h7 h8 h9 ?_
      refine W.eq (g2 := F0 m 28 ls [.ref q9]) rfl ?_
      refine lv_astore (lv' := [(6, .ref q9), (0, .ref (ad 0)), (1, .int p0), (2, .int p1), (3, .int p2), (4, .int p3), (5, .ref (ad 2000))]) hx hb d_L_use_28 hl (by decide) rfl (fun ls hl => ?_)
      refine lv_iconst (v := 2) hx hb d_L_use_30 (by decide) ?_
      exact m_iret (v := 2) hx hb hr hm (⟨ad, (I, J, F, si, tc, oc), f, fun _ _ => rfl, Prod.ext rfl (hG.trans (congrArg (gE dA ad I J F si tc oc) (va_upid hO).symm)), Or.inr (Or.inr (Or.inl ⟨rfl, hq, rfl⟩))⟩) d_L_use_31 hlocks
    · refine vx_catch (own := "EdgeWearLaw") (name := "java/lang/IllegalStateException") hown [⟨0, 21, 24, 13⟩, ⟨0, 21, 28, 15⟩] ⟨0, 21, 32, 17⟩ [] (htab.trans rfl) (List.forall_mem_cons.mpr ⟨Or.inr ⟨by decide, "java/lang/IndexOutOfBoundsException", hT _ k_122, hC.2.2.2.2.2.2.1⟩, List.forall_mem_cons.mpr ⟨Or.inr ⟨by decide, "java/lang/IllegalArgumentException", hT _ k_123, hC.2.2.2.2.2.2.2⟩, fun _ h => absurd h List.not_mem_nil⟩⟩) rfl (by decide) (hT _ k_124) (hC.2.2.2.use (w := .castable "java/lang/IllegalStateException" "java/lang/IllegalStateException") (by decide +kernel)) h7 h8 h9 ?_
      refine W.eq (g2 := F0 m 32 ls [.ref q9]) rfl ?_
      refine lv_astore (lv' := [(6, .ref q9), (0, .ref (ad 0)), (1, .int p0), (2, .int p1), (3, .int p2), (4, .int p3), (5, .ref (ad 2000))]) hx hb d_L_use_32 hl (by decide) rfl (fun ls hl => ?_)
      refine lv_iconst (v := 3) hx hb d_L_use_34 (by decide) ?_
      exact m_iret (v := 3) hx hb hr hm (⟨ad, (I, J, F, si, tc, oc), f, fun _ _ => rfl, Prod.ext rfl (hG.trans (congrArg (gE dA ad I J F si tc oc) (va_upid hO).symm)), Or.inr (Or.inr (Or.inr (⟨rfl, hq, rfl⟩)))⟩) d_L_use_35 hlocks
  · obtain ⟨x1, had, hu9, hrel⟩ := kE_use ht ho w_2
    replace hu9 : G_3 = gEx dA ad_4 x1 G0 := hu9
    replace had : ∀ k, k = 0 ∨ 1000 ≤ k → ad_4 k = ad k := had
    have ho9 : G_3 2000 = some (.inl (dA 1, 1, .inr (.inl f))) := by
      rw [hu9]
      exact (gE_out (by decide)).trans hO
    refine lv_if_eq (tgt := 19) hx hb d_L_use_12 (by decide) (fun c_12 => ?_) (fun c_12 => ?_)
    · refine lv_lconst (v := 0) hx hb d_L_use_19 (by decide) ?_
      refine m_last hx hb hC.1 hm 2000 (had 2000 (Or.inr (by decide))).symm 1 ho9 rfl (vpc _ _ (by decide)) d_L_use_20 (fun H locs hm => ?_)
      obtain ⟨G_5, eG_5⟩ : ∃ z : mG, z = va_up G_3 2000 (some (.inl ((dA 1), 1, .inr (.inl (vp_updL f 0 0))))) := ⟨_, rfl⟩
      have hm : mS D mCl (mA ad G s.heap.size) s.heap ad_4 G_5 H locs := by rw [eG_5]; exact hm
      have g_6 : G_5 2000 = some (.inl ((dA 1), 1, .inr (.inl (vp_updL f 0 0)))) := by rw [eG_5, va_up_self]
      refine lv_goto (tgt := 36) hx hb d_L_use_21 (by decide) ?_
      refine lv_iconst (v := 0) hx hb d_L_use_36 (by decide) ?_
      exact m_iret (v := 0) hx hb hr hm (⟨ad_4, x1, vp_updL f 0 0, had, Prod.ext rfl (by
        show G_5 = _
        rw [eG_5, hu9, gE_up 2000 (by decide)]), Or.inl ⟨rfl, r_1, pk_uLs.trans (if_pos c_12).symm, hrel⟩⟩) d_L_use_37 hlocks
    · refine lv_lconst (v := 1) hx hb d_L_use_15 (by decide) ?_
      refine lv_goto (tgt := 20) hx hb d_L_use_16 (by decide) ?_
      refine m_last hx hb hC.1 hm 2000 (had 2000 (Or.inr (by decide))).symm 1 ho9 rfl (vpc _ _ (by decide)) d_L_use_20 (fun H locs hm => ?_)
      obtain ⟨G_7, eG_7⟩ : ∃ z : mG, z = va_up G_3 2000 (some (.inl ((dA 1), 1, .inr (.inl (vp_updL f 0 1))))) := ⟨_, rfl⟩
      have hm : mS D mCl (mA ad G s.heap.size) s.heap ad_4 G_7 H locs := by rw [eG_7]; exact hm
      have g_8 : G_7 2000 = some (.inl ((dA 1), 1, .inr (.inl (vp_updL f 0 1)))) := by rw [eG_7, va_up_self]
      refine lv_goto (tgt := 36) hx hb d_L_use_21 (by decide) ?_
      refine lv_iconst (v := 0) hx hb d_L_use_36 (by decide) ?_
      exact m_iret (v := 0) hx hb hr hm (⟨ad_4, x1, vp_updL f 0 1, had, Prod.ext rfl (by
        show G_7 = _
        rw [eG_7, hu9, gE_up 2000 (by decide)]), Or.inl ⟨rfl, r_1, pk_uLs.trans (if_neg c_12).symm, hrel⟩⟩) d_L_use_37 hlocks

set_option maxHeartbeats 4000000 in
set_option maxRecDepth 100000 in
theorem c_L_grind (l : Launch) (hlt : l.stackTraces = false) (D : va_G) (dA : Nat → ClassId) (ad : Nat → Nat) (G : mG) (sz : Nat) (I : Nat → Nat → Int32) (J : Nat → Nat → Int64) (F : Nat → Nat → Nat → Int32) (si : Nat → Nat) (tc oc : Nat) (G0 : mG) (hG : G = gE dA ad I J F si tc oc G0) (ht : tc ≤ 12) (p0 p1 : Int32) (ho : oc ≤ 16) (f : Nat → Int64) (hO : G0 2000 = some (.inl (dA 1, 1, .inr (.inl f)))) : Met l y_L_grind (.codeWith y_L_grind b_L_grind 5 (some .int) [(0, 17, 20, 13), (0, 17, 24, 15), (0, 17, 28, 17)] :: mBig) ({ frames := 8, cells := 2, slots := 12, locals := 127 }) (mPc [.ref (ad 0), .int p0, .int p1, .ref (ad 2000)] D mCl (mTys dA) mTx ad G sz) (mQi (fun (rv : Int32) (u : mU) => (∃ (ad1 : Nat → Nat) (x1 : eS) (f1 : Nat → Int64), (∀ k, k = 0 ∨ 1000 ≤ k → ad1 k = ad k) ∧ u = (ad1, gEx dA ad1 x1 (va_up G0 2000 (some (.inl (dA 1, 1, .inr (.inl f1)))))) ∧ R_L_grind I J F si tc oc p0 p1 rv (f1 0) x1)) D mCl ad G sz) 2 12 (mA ad G sz) := by
  refine va_MetW (cc := b_L_grind) (maxL := 5) (ret := (some .int)) (hh := [(0, 17, 20, 13), (0, 17, 24, 15), (0, 17, 28, 17)]) (by decide) rfl ?_
  intro p e s m args below meth c s₁ BB hml hv
  obtain ⟨rfl, hsz, hw0, hC⟩ := hv
  have hx := BB.exec
  have hb := BB.bytes
  have hr := BB.returns
  have hts := atoms_spec (ws := .codeWith y_L_grind b_L_grind 5 (some .int) [(0, 17, 20, 13), (0, 17, 24, 15), (0, 17, 28, 17)] :: mBig) BB.pre
  have hT : ∀ w ∈ mBig, w.before _ s = true := fun w h => hts w (List.mem_cons_of_mem _ h)
  have hown : s.vm.findClass "EdgeWearLaw" = some m.cls := findClass_of_methodNamed BB.named
  have htab := vx_table (x := y_L_grind) BB (hts _ List.mem_cons_self)
  have hlocks := BB.notSynchronized
  subst hsz
  have hm := mS.start hw0
  have hA : ∀ q : Nat, s.heap.size ≤ q → mA ad G s.heap.size q := fun q h => Or.inr h
  have hl := lv_entry ([.ref (ad 0), .int p0, .int p1, .ref (ad 2000)]) (n := 5) (Nat.le_of_ble_eq_true rfl)
  rw [lg_entry_eq]
  generalize (lg_sl ([.ref (ad 0), .int p0, .int p1, .ref (ad 2000)]) ++ List.replicate (5 - (lg_sl ([.ref (ad 0), .int p0, .int p1, .ref (ad 2000)])).length) Slot.unset).toArray = ls at hl ⊢
  have hl : lv_has ls 5 [(0, .ref (ad 0)), (1, .int p0), (2, .int p1), (3, .ref (ad 2000))] := hl
  refine lv_aload_n hx hb d_L_grind_0 rfl (lv_at hl 3 rfl) ?_
  refine lv_iconst (v := 0) hx hb d_L_grind_1 (by decide) ?_
  refine lv_aload_n hx hb d_L_grind_2 rfl (lv_at hl 0 rfl) ?_
  refine lv_iload_n hx hb d_L_grind_3 rfl (lv_at hl 1 rfl) ?_
  refine lv_iload_n hx hb d_L_grind_4 rfl (lv_at hl 2 rfl) ?_
  refine x_calli (x_runV (As := [.int p0, .int p1]) (rest := [.int 0, .ref (ad 2000)]) ⟨hx, hb, hml, hown, hts⟩ (c_E_grind l hlt D dA ad G s.heap.size I J F si tc oc G0 hG ht p0 p1) (cwV 2 hts (gV k_345 k_342 k_343 k_344 k_1) rfl rfl rfl (by decide +kernel) ⟨Nat.le_of_ble_eq_true rfl, Nat.le_of_ble_eq_true rfl⟩) hm hA hC 0 rfl ((congrFun hG 0).trans gE_c0) rfl rfl rfl hl.1 rfl (Nat.le_of_ble_eq_true rfl) d_L_grind_5 ⟨Nat.le_of_ble_eq_true rfl, Nat.le_of_ble_eq_true rfl⟩) hm hA (fun E ce q9 ad_4 G_3 H locs w_2 hm h7 h8 h9 => ?_) (fun r_1 ad_4 G_3 H locs w_2 hm => ?_)
  · obtain ⟨hpx, hu9⟩ := w_2
    obtain ⟨ea9, eg9⟩ := Prod.mk.inj hu9
    rw [ea9, eg9] at hm
    rcases hpx with ⟨rfl, hq⟩ | ⟨rfl, hq⟩ | ⟨rfl, hq⟩
    · refine vx_catch (own := "EdgeWearLaw") (name := "java/lang/IndexOutOfBoundsException") hown [] ⟨0, 17, 20, 13⟩ [⟨0, 17, 24, 15⟩, ⟨0, 17, 28, 17⟩] (htab.trans rfl) (fun _ h => absurd h List.not_mem_nil) rfl (by decide) (hT _ k_122) (hC.2.2.2.use (w := .castable "java/lang/IndexOutOfBoundsException" "java/lang/IndexOutOfBoundsException") (by decide +kernel)) h7 h8 h9 ?_
      refine W.eq (g2 := F0 m 20 ls [.ref q9]) rfl ?_
      refine lv_astore (lv' := [(4, .ref q9), (0, .ref (ad 0)), (1, .int p0), (2, .int p1), (3, .ref (ad 2000))]) hx hb d_L_grind_20 hl (by decide) rfl (fun ls hl => ?_)
      refine lv_iconst (v := 1) hx hb d_L_grind_22 (by decide) ?_
      exact m_iret (v := 1) hx hb hr hm (⟨ad, (I, J, F, si, tc, oc), f, fun _ _ => rfl, Prod.ext rfl (hG.trans (congrArg (gE dA ad I J F si tc oc) (va_upid hO).symm)), Or.inr (Or.inl ⟨rfl, hq, rfl⟩)⟩) d_L_grind_23 hlocks
    · refine vx_catch (own := "EdgeWearLaw") (name := "java/lang/IllegalArgumentException") hown [⟨0, 17, 20, 13⟩] ⟨0, 17, 24, 15⟩ [⟨0, 17, 28, 17⟩] (htab.trans rfl) (List.forall_mem_cons.mpr ⟨Or.inr ⟨by decide, "java/lang/IndexOutOfBoundsException", hT _ k_122, hC.2.2.2.2.2.1⟩, fun _ h => absurd h List.not_mem_nil⟩) rfl (by decide) (hT _ k_123) (hC.2.2.2.use (w := .castable "java/lang/IllegalArgumentException" "java/lang/IllegalArgumentException") (by decide +kernel)) h7 h8 h9 ?_
      refine W.eq (g2 := F0 m 24 ls [.ref q9]) rfl ?_
      refine lv_astore (lv' := [(4, .ref q9), (0, .ref (ad 0)), (1, .int p0), (2, .int p1), (3, .ref (ad 2000))]) hx hb d_L_grind_24 hl (by decide) rfl (fun ls hl => ?_)
      refine lv_iconst (v := 2) hx hb d_L_grind_26 (by decide) ?_
      exact m_iret (v := 2) hx hb hr hm (⟨ad, (I, J, F, si, tc, oc), f, fun _ _ => rfl, Prod.ext rfl (hG.trans (congrArg (gE dA ad I J F si tc oc) (va_upid hO).symm)), Or.inr (Or.inr (Or.inl ⟨rfl, hq, rfl⟩))⟩) d_L_grind_27 hlocks
    · refine vx_catch (own := "EdgeWearLaw") (name := "java/lang/IllegalStateException") hown [⟨0, 17, 20, 13⟩, ⟨0, 17, 24, 15⟩] ⟨0, 17, 28, 17⟩ [] (htab.trans rfl) (List.forall_mem_cons.mpr ⟨Or.inr ⟨by decide, "java/lang/IndexOutOfBoundsException", hT _ k_122, hC.2.2.2.2.2.2.1⟩, List.forall_mem_cons.mpr ⟨Or.inr ⟨by decide, "java/lang/IllegalArgumentException", hT _ k_123, hC.2.2.2.2.2.2.2⟩, fun _ h => absurd h List.not_mem_nil⟩⟩) rfl (by decide) (hT _ k_124) (hC.2.2.2.use (w := .castable "java/lang/IllegalStateException" "java/lang/IllegalStateException") (by decide +kernel)) h7 h8 h9 ?_
      refine W.eq (g2 := F0 m 28 ls [.ref q9]) rfl ?_
      refine lv_astore (lv' := [(4, .ref q9), (0, .ref (ad 0)), (1, .int p0), (2, .int p1), (3, .ref (ad 2000))]) hx hb d_L_grind_28 hl (by decide) rfl (fun ls hl => ?_)
      refine lv_iconst (v := 3) hx hb d_L_grind_30 (by decide) ?_
      exact m_iret (v := 3) hx hb hr hm (⟨ad, (I, J, F, si, tc, oc), f, fun _ _ => rfl, Prod.ext rfl (hG.trans (congrArg (gE dA ad I J F si tc oc) (va_upid hO).symm)), Or.inr (Or.inr (Or.inr (⟨rfl, hq, rfl⟩)))⟩) d_L_grind_31 hlocks
  · obtain ⟨x1, had, hu9, hrel⟩ := kE_grind ht ho w_2
    replace hu9 : G_3 = gEx dA ad_4 x1 G0 := hu9
    replace had : ∀ k, k = 0 ∨ 1000 ≤ k → ad_4 k = ad k := had
    have ho9 : G_3 2000 = some (.inl (dA 1, 1, .inr (.inl f))) := by
      rw [hu9]
      exact (gE_out (by decide)).trans hO
    refine lv_if_eq (tgt := 15) hx hb d_L_grind_8 (by decide) (fun c_8 => ?_) (fun c_8 => ?_)
    · refine lv_lconst (v := 0) hx hb d_L_grind_15 (by decide) ?_
      refine m_last hx hb hC.1 hm 2000 (had 2000 (Or.inr (by decide))).symm 1 ho9 rfl (vpc _ _ (by decide)) d_L_grind_16 (fun H locs hm => ?_)
      obtain ⟨G_5, eG_5⟩ : ∃ z : mG, z = va_up G_3 2000 (some (.inl ((dA 1), 1, .inr (.inl (vp_updL f 0 0))))) := ⟨_, rfl⟩
      have hm : mS D mCl (mA ad G s.heap.size) s.heap ad_4 G_5 H locs := by rw [eG_5]; exact hm
      have g_6 : G_5 2000 = some (.inl ((dA 1), 1, .inr (.inl (vp_updL f 0 0)))) := by rw [eG_5, va_up_self]
      refine lv_goto (tgt := 32) hx hb d_L_grind_17 (by decide) ?_
      refine lv_iconst (v := 0) hx hb d_L_grind_32 (by decide) ?_
      exact m_iret (v := 0) hx hb hr hm (⟨ad_4, x1, vp_updL f 0 0, had, Prod.ext rfl (by
        show G_5 = _
        rw [eG_5, hu9, gE_up 2000 (by decide)]), Or.inl ⟨rfl, r_1, pk_uLs.trans (if_pos c_8).symm, hrel⟩⟩) d_L_grind_33 hlocks
    · refine lv_lconst (v := 1) hx hb d_L_grind_11 (by decide) ?_
      refine lv_goto (tgt := 16) hx hb d_L_grind_12 (by decide) ?_
      refine m_last hx hb hC.1 hm 2000 (had 2000 (Or.inr (by decide))).symm 1 ho9 rfl (vpc _ _ (by decide)) d_L_grind_16 (fun H locs hm => ?_)
      obtain ⟨G_7, eG_7⟩ : ∃ z : mG, z = va_up G_3 2000 (some (.inl ((dA 1), 1, .inr (.inl (vp_updL f 0 1))))) := ⟨_, rfl⟩
      have hm : mS D mCl (mA ad G s.heap.size) s.heap ad_4 G_7 H locs := by rw [eG_7]; exact hm
      have g_8 : G_7 2000 = some (.inl ((dA 1), 1, .inr (.inl (vp_updL f 0 1)))) := by rw [eG_7, va_up_self]
      refine lv_goto (tgt := 32) hx hb d_L_grind_17 (by decide) ?_
      refine lv_iconst (v := 0) hx hb d_L_grind_32 (by decide) ?_
      exact m_iret (v := 0) hx hb hr hm (⟨ad_4, x1, vp_updL f 0 1, had, Prod.ext rfl (by
        show G_7 = _
        rw [eG_7, hu9, gE_up 2000 (by decide)]), Or.inl ⟨rfl, r_1, pk_uLs.trans (if_neg c_8).symm, hrel⟩⟩) d_L_grind_33 hlocks

set_option maxHeartbeats 4000000 in
set_option maxRecDepth 100000 in
theorem c_L_about (l : Launch) (hlt : l.stackTraces = false) (D : va_G) (dA : Nat → ClassId) (ad : Nat → Nat) (G : mG) (sz : Nat) (I : Nat → Nat → Int32) (J : Nat → Nat → Int64) (F : Nat → Nat → Nat → Int32) (si : Nat → Nat) (tc oc : Nat) (G0 : mG) (hG : G = gE dA ad I J F si tc oc G0) (ht : tc ≤ 12) (hs : ∀ i, i < tc → si i < 4) (p0 p1 : Int32) (ho : oc ≤ 16) (f : Nat → Int64) (hO : G0 2000 = some (.inl (dA 1, 1, .inr (.inl f)))) : Met l y_L_about (.codeWith y_L_about b_L_about 5 (some .int) [(0, 9, 12, 13)] :: mBig) ({ frames := 8, cells := 2, slots := 12, locals := 127 }) (mPc [.ref (ad 0), .int p0, .int p1, .ref (ad 2000)] D mCl (mTys dA) mTx ad G sz) (mQi (fun (rv : Int32) (u : mU) => (∃ (ad1 : Nat → Nat) (x1 : eS) (f1 : Nat → Int64), (∀ k, k = 0 ∨ 1000 ≤ k → ad1 k = ad k) ∧ u = (ad1, gEx dA ad1 x1 (va_up G0 2000 (some (.inl (dA 1, 1, .inr (.inl f1)))))) ∧ R_L_about I J F si tc oc p0 p1 rv (f1 0) x1)) D mCl ad G sz) 2 12 (mA ad G sz) := by
  refine va_MetW (cc := b_L_about) (maxL := 5) (ret := (some .int)) (hh := [(0, 9, 12, 13)]) (by decide) rfl ?_
  intro p e s m args below meth c s₁ BB hml hv
  obtain ⟨rfl, hsz, hw0, hC⟩ := hv
  have hx := BB.exec
  have hb := BB.bytes
  have hr := BB.returns
  have hts := atoms_spec (ws := .codeWith y_L_about b_L_about 5 (some .int) [(0, 9, 12, 13)] :: mBig) BB.pre
  have hT : ∀ w ∈ mBig, w.before _ s = true := fun w h => hts w (List.mem_cons_of_mem _ h)
  have hown : s.vm.findClass "EdgeWearLaw" = some m.cls := findClass_of_methodNamed BB.named
  have htab := vx_table (x := y_L_about) BB (hts _ List.mem_cons_self)
  have hlocks := BB.notSynchronized
  subst hsz
  have hm := mS.start hw0
  have hA : ∀ q : Nat, s.heap.size ≤ q → mA ad G s.heap.size q := fun q h => Or.inr h
  have hl := lv_entry ([.ref (ad 0), .int p0, .int p1, .ref (ad 2000)]) (n := 5) (Nat.le_of_ble_eq_true rfl)
  rw [lg_entry_eq]
  generalize (lg_sl ([.ref (ad 0), .int p0, .int p1, .ref (ad 2000)]) ++ List.replicate (5 - (lg_sl ([.ref (ad 0), .int p0, .int p1, .ref (ad 2000)])).length) Slot.unset).toArray = ls at hl ⊢
  have hl : lv_has ls 5 [(0, .ref (ad 0)), (1, .int p0), (2, .int p1), (3, .ref (ad 2000))] := hl
  refine lv_aload_n hx hb d_L_about_0 rfl (lv_at hl 3 rfl) ?_
  refine lv_iconst (v := 0) hx hb d_L_about_1 (by decide) ?_
  refine lv_aload_n hx hb d_L_about_2 rfl (lv_at hl 0 rfl) ?_
  refine lv_iload_n hx hb d_L_about_3 rfl (lv_at hl 1 rfl) ?_
  refine lv_iload_n hx hb d_L_about_4 rfl (lv_at hl 2 rfl) ?_
  refine x_rol (x_runV (As := [.int p0, .int p1]) (rest := [.int 0, .ref (ad 2000)]) ⟨hx, hb, hml, hown, hts⟩ (c_E_about l hlt D dA ad G s.heap.size I J F si tc oc G0 hG ht hs p0 p1) (cwV 2 hts (gV k_357 k_354 k_355 k_356 k_1) rfl rfl rfl (by decide +kernel) ⟨Nat.le_of_ble_eq_true rfl, Nat.le_of_ble_eq_true rfl⟩) hm hA hC 0 rfl ((congrFun hG 0).trans gE_c0) rfl rfl rfl hl.1 rfl (Nat.le_of_ble_eq_true rfl) d_L_about_5 ⟨Nat.le_of_ble_eq_true rfl, Nat.le_of_ble_eq_true rfl⟩) hm hA (fun E ce q9 H locs w_2 hm h7 h8 h9 => ?_) (fun r_1 H locs w_2 hm => ?_)
  · have hpx := w_2
    rcases hpx with ⟨rfl, hq⟩
    · refine vx_catch (own := "EdgeWearLaw") (name := "java/lang/IndexOutOfBoundsException") hown [] ⟨0, 9, 12, 13⟩ [] (htab.trans rfl) (fun _ h => absurd h List.not_mem_nil) rfl (by decide) (hT _ k_122) (hC.2.2.2.use (w := .castable "java/lang/IndexOutOfBoundsException" "java/lang/IndexOutOfBoundsException") (by decide +kernel)) h7 h8 h9 ?_
      refine W.eq (g2 := F0 m 12 ls [.ref q9]) rfl ?_
      refine lv_astore (lv' := [(4, .ref q9), (0, .ref (ad 0)), (1, .int p0), (2, .int p1), (3, .ref (ad 2000))]) hx hb d_L_about_12 hl (by decide) rfl (fun ls hl => ?_)
      refine lv_iconst (v := 1) hx hb d_L_about_14 (by decide) ?_
      exact m_iret (v := 1) hx hb hr hm (⟨ad, (I, J, F, si, tc, oc), f, fun _ _ => rfl, Prod.ext rfl (hG.trans (congrArg (gE dA ad I J F si tc oc) (va_upid hO).symm)), Or.inr (⟨rfl, hq, rfl⟩)⟩) d_L_about_15 hlocks
  · have hrel : R_E_about I J F si tc oc p0 p1 r_1 (I, J, F, si, tc, oc) := ⟨w_2, rfl⟩
    refine m_last hx hb hC.1 hm 2000 rfl 1 (((congrFun hG 2000).trans (gE_out (by decide))).trans hO) rfl (vpc _ _ (by decide)) d_L_about_8 (fun H locs hm => ?_)
    obtain ⟨G_3, eG_3⟩ : ∃ z : mG, z = va_up G 2000 (some (.inl ((dA 1), 1, .inr (.inl (vp_updL f 0 r_1))))) := ⟨_, rfl⟩
    have hm : mS D mCl (mA ad G s.heap.size) s.heap ad G_3 H locs := by rw [eG_3]; exact hm
    have g_4 := (congrFun eG_3 0).trans ((va_up_ne _ _ (by decide)).trans ((congrFun hG 0).trans gE_c0))
    have g_5 : G_3 2000 = some (.inl ((dA 1), 1, .inr (.inl (vp_updL f 0 r_1)))) := by rw [eG_3, va_up_self]
    refine lv_goto (tgt := 16) hx hb d_L_about_9 (by decide) ?_
    refine lv_iconst (v := 0) hx hb d_L_about_16 (by decide) ?_
    exact m_iret (v := 0) hx hb hr hm (⟨ad, (I, J, F, si, tc, oc), vp_updL f 0 r_1, fun _ _ => rfl, Prod.ext rfl (by
      show G_3 = _
      rw [eG_3, hG, gE_up 2000 (by decide)]), Or.inl ⟨rfl, r_1, pk_uLs, hrel⟩⟩) d_L_about_17 hlocks

set_option maxHeartbeats 4000000 in
set_option maxRecDepth 100000 in
theorem c_L_spare (l : Launch) (hlt : l.stackTraces = false) (D : va_G) (dA : Nat → ClassId) (ad : Nat → Nat) (G : mG) (sz : Nat) (I : Nat → Nat → Int32) (J : Nat → Nat → Int64) (F : Nat → Nat → Nat → Int32) (si : Nat → Nat) (tc oc : Nat) (G0 : mG) (hG : G = gE dA ad I J F si tc oc G0) (ht : tc ≤ 12) (hs : ∀ i, i < tc → si i < 4) (p0 : Int32) (ho : oc ≤ 16) (f : Nat → Int64) (hO : G0 2000 = some (.inl (dA 1, 1, .inr (.inl f)))) : Met l y_L_spare (.codeWith y_L_spare b_L_spare 4 (some .int) [(0, 9, 12, 13)] :: mBig) ({ frames := 8, cells := 1, slots := 6, locals := 129 }) (mPc [.ref (ad 0), .int p0, .ref (ad 2000)] D mCl (mTys dA) mTx ad G sz) (mQi (fun (rv : Int32) (u : mU) => (∃ (ad1 : Nat → Nat) (x1 : eS) (f1 : Nat → Int64), (∀ k, k = 0 ∨ 1000 ≤ k → ad1 k = ad k) ∧ u = (ad1, gEx dA ad1 x1 (va_up G0 2000 (some (.inl (dA 1, 1, .inr (.inl f1)))))) ∧ R_L_spare I J F si tc oc p0 rv (f1 0) x1)) D mCl ad G sz) 1 6 (mA ad G sz) := by
  refine va_MetW (cc := b_L_spare) (maxL := 4) (ret := (some .int)) (hh := [(0, 9, 12, 13)]) (by decide) rfl ?_
  intro p e s m args below meth c s₁ BB hml hv
  obtain ⟨rfl, hsz, hw0, hC⟩ := hv
  have hx := BB.exec
  have hb := BB.bytes
  have hr := BB.returns
  have hts := atoms_spec (ws := .codeWith y_L_spare b_L_spare 4 (some .int) [(0, 9, 12, 13)] :: mBig) BB.pre
  have hT : ∀ w ∈ mBig, w.before _ s = true := fun w h => hts w (List.mem_cons_of_mem _ h)
  have hown : s.vm.findClass "EdgeWearLaw" = some m.cls := findClass_of_methodNamed BB.named
  have htab := vx_table (x := y_L_spare) BB (hts _ List.mem_cons_self)
  have hlocks := BB.notSynchronized
  subst hsz
  have hm := mS.start hw0
  have hA : ∀ q : Nat, s.heap.size ≤ q → mA ad G s.heap.size q := fun q h => Or.inr h
  have hl := lv_entry ([.ref (ad 0), .int p0, .ref (ad 2000)]) (n := 4) (Nat.le_of_ble_eq_true rfl)
  rw [lg_entry_eq]
  generalize (lg_sl ([.ref (ad 0), .int p0, .ref (ad 2000)]) ++ List.replicate (4 - (lg_sl ([.ref (ad 0), .int p0, .ref (ad 2000)])).length) Slot.unset).toArray = ls at hl ⊢
  have hl : lv_has ls 4 [(0, .ref (ad 0)), (1, .int p0), (2, .ref (ad 2000))] := hl
  refine lv_aload_n hx hb d_L_spare_0 rfl (lv_at hl 2 rfl) ?_
  refine lv_iconst (v := 0) hx hb d_L_spare_1 (by decide) ?_
  refine lv_aload_n hx hb d_L_spare_2 rfl (lv_at hl 0 rfl) ?_
  refine lv_iload_n hx hb d_L_spare_3 rfl (lv_at hl 1 rfl) ?_
  refine x_roi (x_runV (As := [.int p0]) (rest := [.int 0, .ref (ad 2000)]) ⟨hx, hb, hml, hown, hts⟩ (c_E_spare l hlt D dA ad G s.heap.size I J F si tc oc G0 hG ht hs p0) (cwV 1 hts (gV k_370 k_367 k_368 k_369 k_1) rfl rfl rfl (by decide +kernel) ⟨Nat.le_of_ble_eq_true rfl, Nat.le_of_ble_eq_true rfl⟩) hm hA hC 0 rfl ((congrFun hG 0).trans gE_c0) rfl rfl rfl hl.1 rfl (Nat.le_of_ble_eq_true rfl) d_L_spare_4 ⟨Nat.le_of_ble_eq_true rfl, Nat.le_of_ble_eq_true rfl⟩) hm hA (fun E ce q9 H locs w_2 hm h7 h8 h9 => ?_) (fun r_1 H locs w_2 hm => ?_)
  · have hpx := w_2
    rcases hpx with ⟨rfl, hq⟩
    · refine vx_catch (own := "EdgeWearLaw") (name := "java/lang/IndexOutOfBoundsException") hown [] ⟨0, 9, 12, 13⟩ [] (htab.trans rfl) (fun _ h => absurd h List.not_mem_nil) rfl (by decide) (hT _ k_122) (hC.2.2.2.use (w := .castable "java/lang/IndexOutOfBoundsException" "java/lang/IndexOutOfBoundsException") (by decide +kernel)) h7 h8 h9 ?_
      refine W.eq (g2 := F0 m 12 ls [.ref q9]) rfl ?_
      refine lv_astore_n (lv' := [(3, .ref q9), (0, .ref (ad 0)), (1, .int p0), (2, .ref (ad 2000))]) hx hb d_L_spare_12 rfl hl (by decide) rfl (fun ls hl => ?_)
      refine lv_iconst (v := 1) hx hb d_L_spare_13 (by decide) ?_
      exact m_iret (v := 1) hx hb hr hm (⟨ad, (I, J, F, si, tc, oc), f, fun _ _ => rfl, Prod.ext rfl (hG.trans (congrArg (gE dA ad I J F si tc oc) (va_upid hO).symm)), Or.inr (⟨rfl, hq, rfl⟩)⟩) d_L_spare_14 hlocks
  · have hrel : R_E_spare I J F si tc oc p0 r_1 (I, J, F, si, tc, oc) := ⟨w_2, rfl⟩
    refine lv_i2l hx hb d_L_spare_7 rfl ?_
    refine lv_topl (fun x_3 ex_3 => ?_)
    refine m_last hx hb hC.1 hm 2000 rfl 1 (((congrFun hG 2000).trans (gE_out (by decide))).trans hO) rfl (vpc _ _ (by decide)) d_L_spare_8 (fun H locs hm => ?_)
    obtain ⟨G_4, eG_4⟩ : ∃ z : mG, z = va_up G 2000 (some (.inl ((dA 1), 1, .inr (.inl (vp_updL f 0 x_3))))) := ⟨_, rfl⟩
    have hm : mS D mCl (mA ad G s.heap.size) s.heap ad G_4 H locs := by rw [eG_4]; exact hm
    have g_5 := (congrFun eG_4 0).trans ((va_up_ne _ _ (by decide)).trans ((congrFun hG 0).trans gE_c0))
    have g_6 : G_4 2000 = some (.inl ((dA 1), 1, .inr (.inl (vp_updL f 0 x_3)))) := by rw [eG_4, va_up_self]
    refine lv_goto (tgt := 15) hx hb d_L_spare_9 (by decide) ?_
    refine lv_iconst (v := 0) hx hb d_L_spare_15 (by decide) ?_
    exact m_iret (v := 0) hx hb hr hm (⟨ad, (I, J, F, si, tc, oc), vp_updL f 0 x_3, fun _ _ => rfl, Prod.ext rfl (by
      show G_4 = _
      rw [eG_4, hG, gE_up 2000 (by decide)]), Or.inl ⟨rfl, r_1, pk_uLs.trans ex_3, hrel⟩⟩) d_L_spare_16 hlocks

set_option maxHeartbeats 4000000 in
set_option maxRecDepth 100000 in
theorem c_L_take (l : Launch) (hlt : l.stackTraces = false) (D : va_G) (dA : Nat → ClassId) (ad : Nat → Nat) (G : mG) (sz : Nat) (I : Nat → Nat → Int32) (J : Nat → Nat → Int64) (F : Nat → Nat → Nat → Int32) (si : Nat → Nat) (tc oc : Nat) (G0 : mG) (hG : G = gE dA ad I J F si tc oc G0) (ht : tc ≤ 12) (hs : ∀ i, i < tc → si i < 4) (p0 : Int32) (ho : oc ≤ 16) (f : Nat → Int64) (hO : G0 2000 = some (.inl (dA 1, 1, .inr (.inl f)))) : Met l y_L_take (.codeWith y_L_take b_L_take 4 (some .int) [(0, 9, 12, 13)] :: mBig) ({ frames := 8, cells := 2, slots := 12, locals := 126 }) (mPc [.ref (ad 0), .int p0, .ref (ad 2000)] D mCl (mTys dA) mTx ad G sz) (mQi (fun (rv : Int32) (u : mU) => (∃ (ad1 : Nat → Nat) (x1 : eS) (f1 : Nat → Int64), (∀ k, k = 0 ∨ 1000 ≤ k → ad1 k = ad k) ∧ u = (ad1, gEx dA ad1 x1 (va_up G0 2000 (some (.inl (dA 1, 1, .inr (.inl f1)))))) ∧ R_L_take I J F si tc oc p0 rv (f1 0) x1)) D mCl ad G sz) 2 12 (mA ad G sz) := by
  refine va_MetW (cc := b_L_take) (maxL := 4) (ret := (some .int)) (hh := [(0, 9, 12, 13)]) (by decide) rfl ?_
  intro p e s m args below meth c s₁ BB hml hv
  obtain ⟨rfl, hsz, hw0, hC⟩ := hv
  have hx := BB.exec
  have hb := BB.bytes
  have hr := BB.returns
  have hts := atoms_spec (ws := .codeWith y_L_take b_L_take 4 (some .int) [(0, 9, 12, 13)] :: mBig) BB.pre
  have hT : ∀ w ∈ mBig, w.before _ s = true := fun w h => hts w (List.mem_cons_of_mem _ h)
  have hown : s.vm.findClass "EdgeWearLaw" = some m.cls := findClass_of_methodNamed BB.named
  have htab := vx_table (x := y_L_take) BB (hts _ List.mem_cons_self)
  have hlocks := BB.notSynchronized
  subst hsz
  have hm := mS.start hw0
  have hA : ∀ q : Nat, s.heap.size ≤ q → mA ad G s.heap.size q := fun q h => Or.inr h
  have hl := lv_entry ([.ref (ad 0), .int p0, .ref (ad 2000)]) (n := 4) (Nat.le_of_ble_eq_true rfl)
  rw [lg_entry_eq]
  generalize (lg_sl ([.ref (ad 0), .int p0, .ref (ad 2000)]) ++ List.replicate (4 - (lg_sl ([.ref (ad 0), .int p0, .ref (ad 2000)])).length) Slot.unset).toArray = ls at hl ⊢
  have hl : lv_has ls 4 [(0, .ref (ad 0)), (1, .int p0), (2, .ref (ad 2000))] := hl
  refine lv_aload_n hx hb d_L_take_0 rfl (lv_at hl 2 rfl) ?_
  refine lv_iconst (v := 0) hx hb d_L_take_1 (by decide) ?_
  refine lv_aload_n hx hb d_L_take_2 rfl (lv_at hl 0 rfl) ?_
  refine lv_iload_n hx hb d_L_take_3 rfl (lv_at hl 1 rfl) ?_
  refine x_calli (x_runV (As := [.int p0]) (rest := [.int 0, .ref (ad 2000)]) ⟨hx, hb, hml, hown, hts⟩ (c_E_take l hlt D dA ad G s.heap.size I J F si tc oc G0 hG ht hs p0) (cwV 1 hts (gV k_381 k_378 k_379 k_380 k_1) rfl rfl rfl (by decide +kernel) ⟨Nat.le_of_ble_eq_true rfl, Nat.le_of_ble_eq_true rfl⟩) hm hA hC 0 rfl ((congrFun hG 0).trans gE_c0) rfl rfl rfl hl.1 rfl (Nat.le_of_ble_eq_true rfl) d_L_take_4 ⟨Nat.le_of_ble_eq_true rfl, Nat.le_of_ble_eq_true rfl⟩) hm hA (fun E ce q9 ad_4 G_3 H locs w_2 hm h7 h8 h9 => ?_) (fun r_1 ad_4 G_3 H locs w_2 hm => ?_)
  · obtain ⟨hpx, hu9⟩ := w_2
    obtain ⟨ea9, eg9⟩ := Prod.mk.inj hu9
    rw [ea9, eg9] at hm
    rcases hpx with ⟨rfl, hq⟩
    · refine vx_catch (own := "EdgeWearLaw") (name := "java/lang/IndexOutOfBoundsException") hown [] ⟨0, 9, 12, 13⟩ [] (htab.trans rfl) (fun _ h => absurd h List.not_mem_nil) rfl (by decide) (hT _ k_122) (hC.2.2.2.use (w := .castable "java/lang/IndexOutOfBoundsException" "java/lang/IndexOutOfBoundsException") (by decide +kernel)) h7 h8 h9 ?_
      refine W.eq (g2 := F0 m 12 ls [.ref q9]) rfl ?_
      refine lv_astore_n (lv' := [(3, .ref q9), (0, .ref (ad 0)), (1, .int p0), (2, .ref (ad 2000))]) hx hb d_L_take_12 rfl hl (by decide) rfl (fun ls hl => ?_)
      refine lv_iconst (v := 1) hx hb d_L_take_13 (by decide) ?_
      exact m_iret (v := 1) hx hb hr hm (⟨ad, (I, J, F, si, tc, oc), f, fun _ _ => rfl, Prod.ext rfl (hG.trans (congrArg (gE dA ad I J F si tc oc) (va_upid hO).symm)), Or.inr (⟨rfl, hq, rfl⟩)⟩) d_L_take_14 hlocks
  · obtain ⟨x1, had, hu9, hrel⟩ := kE_take ht ho w_2
    replace hu9 : G_3 = gEx dA ad_4 x1 G0 := hu9
    replace had : ∀ k, k = 0 ∨ 1000 ≤ k → ad_4 k = ad k := had
    have ho9 : G_3 2000 = some (.inl (dA 1, 1, .inr (.inl f))) := by
      rw [hu9]
      exact (gE_out (by decide)).trans hO
    refine lv_i2l hx hb d_L_take_7 rfl ?_
    refine lv_topl (fun x_5 ex_5 => ?_)
    refine m_last hx hb hC.1 hm 2000 (had 2000 (Or.inr (by decide))).symm 1 ho9 rfl (vpc _ _ (by decide)) d_L_take_8 (fun H locs hm => ?_)
    obtain ⟨G_6, eG_6⟩ : ∃ z : mG, z = va_up G_3 2000 (some (.inl ((dA 1), 1, .inr (.inl (vp_updL f 0 x_5))))) := ⟨_, rfl⟩
    have hm : mS D mCl (mA ad G s.heap.size) s.heap ad_4 G_6 H locs := by rw [eG_6]; exact hm
    have g_7 : G_6 2000 = some (.inl ((dA 1), 1, .inr (.inl (vp_updL f 0 x_5)))) := by rw [eG_6, va_up_self]
    refine lv_goto (tgt := 15) hx hb d_L_take_9 (by decide) ?_
    refine lv_iconst (v := 0) hx hb d_L_take_15 (by decide) ?_
    exact m_iret (v := 0) hx hb hr hm (⟨ad_4, x1, vp_updL f 0 x_5, had, Prod.ext rfl (by
      show G_6 = _
      rw [eG_6, hu9, gE_up 2000 (by decide)]), Or.inl ⟨rfl, r_1, pk_uLs.trans ex_5, hrel⟩⟩) d_L_take_16 hlocks

set_option maxHeartbeats 4000000 in
set_option maxRecDepth 100000 in
theorem c_L_bring (l : Launch) (hlt : l.stackTraces = false) (D : va_G) (dA : Nat → ClassId) (ad : Nat → Nat) (G : mG) (sz : Nat) (I : Nat → Nat → Int32) (J : Nat → Nat → Int64) (F : Nat → Nat → Nat → Int32) (si : Nat → Nat) (tc oc : Nat) (G0 : mG) (hG : G = gE dA ad I J F si tc oc G0) (ht : tc ≤ 12) (hz : ∀ i, i < tc → I 8 i = 0 ∨ I 8 i = 1) (p0 : Int32) (ho : oc ≤ 16) (f : Nat → Int64) (hO : G0 2000 = some (.inl (dA 1, 1, .inr (.inl f)))) : Met l y_L_bring (.codeWith y_L_bring b_L_bring 4 (some .int) [(0, 16, 19, 13)] :: mBig) ({ frames := 8, cells := 1, slots := 6, locals := 127 }) (mPc [.ref (ad 0), .int p0, .ref (ad 2000)] D mCl (mTys dA) mTx ad G sz) (mQi (fun (rv : Int32) (u : mU) => (∃ (ad1 : Nat → Nat) (x1 : eS) (f1 : Nat → Int64), (∀ k, k = 0 ∨ 1000 ≤ k → ad1 k = ad k) ∧ u = (ad1, gEx dA ad1 x1 (va_up G0 2000 (some (.inl (dA 1, 1, .inr (.inl f1)))))) ∧ R_L_bring I J F si tc oc p0 rv (f1 0) x1)) D mCl ad G sz) 1 6 (mA ad G sz) := by
  refine va_MetW (cc := b_L_bring) (maxL := 4) (ret := (some .int)) (hh := [(0, 16, 19, 13)]) (by decide) rfl ?_
  intro p e s m args below meth c s₁ BB hml hv
  obtain ⟨rfl, hsz, hw0, hC⟩ := hv
  have hx := BB.exec
  have hb := BB.bytes
  have hr := BB.returns
  have hts := atoms_spec (ws := .codeWith y_L_bring b_L_bring 4 (some .int) [(0, 16, 19, 13)] :: mBig) BB.pre
  have hT : ∀ w ∈ mBig, w.before _ s = true := fun w h => hts w (List.mem_cons_of_mem _ h)
  have hown : s.vm.findClass "EdgeWearLaw" = some m.cls := findClass_of_methodNamed BB.named
  have htab := vx_table (x := y_L_bring) BB (hts _ List.mem_cons_self)
  have hlocks := BB.notSynchronized
  subst hsz
  have hm := mS.start hw0
  have hA : ∀ q : Nat, s.heap.size ≤ q → mA ad G s.heap.size q := fun q h => Or.inr h
  have hl := lv_entry ([.ref (ad 0), .int p0, .ref (ad 2000)]) (n := 4) (Nat.le_of_ble_eq_true rfl)
  rw [lg_entry_eq]
  generalize (lg_sl ([.ref (ad 0), .int p0, .ref (ad 2000)]) ++ List.replicate (4 - (lg_sl ([.ref (ad 0), .int p0, .ref (ad 2000)])).length) Slot.unset).toArray = ls at hl ⊢
  have hl : lv_has ls 4 [(0, .ref (ad 0)), (1, .int p0), (2, .ref (ad 2000))] := hl
  refine lv_aload_n hx hb d_L_bring_0 rfl (lv_at hl 2 rfl) ?_
  refine lv_iconst (v := 0) hx hb d_L_bring_1 (by decide) ?_
  refine lv_aload_n hx hb d_L_bring_2 rfl (lv_at hl 0 rfl) ?_
  refine lv_iload_n hx hb d_L_bring_3 rfl (lv_at hl 1 rfl) ?_
  refine x_calli (x_runV (As := [.int p0]) (rest := [.int 0, .ref (ad 2000)]) ⟨hx, hb, hml, hown, hts⟩ (c_E_bring l hlt D dA ad G s.heap.size I J F si tc oc G0 hG ht hz p0) (cwV 1 hts (gV k_393 k_390 k_391 k_392 k_1) rfl rfl rfl (by decide +kernel) ⟨Nat.le_of_ble_eq_true rfl, Nat.le_of_ble_eq_true rfl⟩) hm hA hC 0 rfl ((congrFun hG 0).trans gE_c0) rfl rfl rfl hl.1 rfl (Nat.le_of_ble_eq_true rfl) d_L_bring_4 ⟨Nat.le_of_ble_eq_true rfl, Nat.le_of_ble_eq_true rfl⟩) hm hA (fun E ce q9 ad_4 G_3 H locs w_2 hm h7 h8 h9 => ?_) (fun r_1 ad_4 G_3 H locs w_2 hm => ?_)
  · obtain ⟨hpx, hu9⟩ := w_2
    obtain ⟨ea9, eg9⟩ := Prod.mk.inj hu9
    rw [ea9, eg9] at hm
    rcases hpx with ⟨rfl, hq⟩
    · refine vx_catch (own := "EdgeWearLaw") (name := "java/lang/IndexOutOfBoundsException") hown [] ⟨0, 16, 19, 13⟩ [] (htab.trans rfl) (fun _ h => absurd h List.not_mem_nil) rfl (by decide) (hT _ k_122) (hC.2.2.2.use (w := .castable "java/lang/IndexOutOfBoundsException" "java/lang/IndexOutOfBoundsException") (by decide +kernel)) h7 h8 h9 ?_
      refine W.eq (g2 := F0 m 19 ls [.ref q9]) rfl ?_
      refine lv_astore_n (lv' := [(3, .ref q9), (0, .ref (ad 0)), (1, .int p0), (2, .ref (ad 2000))]) hx hb d_L_bring_19 rfl hl (by decide) rfl (fun ls hl => ?_)
      refine lv_iconst (v := 1) hx hb d_L_bring_20 (by decide) ?_
      exact m_iret (v := 1) hx hb hr hm (⟨ad, (I, J, F, si, tc, oc), f, fun _ _ => rfl, Prod.ext rfl (hG.trans (congrArg (gE dA ad I J F si tc oc) (va_upid hO).symm)), Or.inr (⟨rfl, hq, rfl⟩)⟩) d_L_bring_21 hlocks
  · obtain ⟨x1, had, hu9, hrel⟩ := kE_bring ht ho w_2
    replace hu9 : G_3 = gEx dA ad_4 x1 G0 := hu9
    replace had : ∀ k, k = 0 ∨ 1000 ≤ k → ad_4 k = ad k := had
    have ho9 : G_3 2000 = some (.inl (dA 1, 1, .inr (.inl f))) := by
      rw [hu9]
      exact (gE_out (by decide)).trans hO
    refine lv_if_eq (tgt := 14) hx hb d_L_bring_7 (by decide) (fun c_7 => ?_) (fun c_7 => ?_)
    · refine lv_lconst (v := 0) hx hb d_L_bring_14 (by decide) ?_
      refine m_last hx hb hC.1 hm 2000 (had 2000 (Or.inr (by decide))).symm 1 ho9 rfl (vpc _ _ (by decide)) d_L_bring_15 (fun H locs hm => ?_)
      obtain ⟨G_5, eG_5⟩ : ∃ z : mG, z = va_up G_3 2000 (some (.inl ((dA 1), 1, .inr (.inl (vp_updL f 0 0))))) := ⟨_, rfl⟩
      have hm : mS D mCl (mA ad G s.heap.size) s.heap ad_4 G_5 H locs := by rw [eG_5]; exact hm
      have g_6 : G_5 2000 = some (.inl ((dA 1), 1, .inr (.inl (vp_updL f 0 0)))) := by rw [eG_5, va_up_self]
      refine lv_goto (tgt := 22) hx hb d_L_bring_16 (by decide) ?_
      refine lv_iconst (v := 0) hx hb d_L_bring_22 (by decide) ?_
      exact m_iret (v := 0) hx hb hr hm (⟨ad_4, x1, vp_updL f 0 0, had, Prod.ext rfl (by
        show G_5 = _
        rw [eG_5, hu9, gE_up 2000 (by decide)]), Or.inl ⟨rfl, r_1, pk_uLs.trans (if_pos c_7).symm, hrel⟩⟩) d_L_bring_23 hlocks
    · refine lv_lconst (v := 1) hx hb d_L_bring_10 (by decide) ?_
      refine lv_goto (tgt := 15) hx hb d_L_bring_11 (by decide) ?_
      refine m_last hx hb hC.1 hm 2000 (had 2000 (Or.inr (by decide))).symm 1 ho9 rfl (vpc _ _ (by decide)) d_L_bring_15 (fun H locs hm => ?_)
      obtain ⟨G_7, eG_7⟩ : ∃ z : mG, z = va_up G_3 2000 (some (.inl ((dA 1), 1, .inr (.inl (vp_updL f 0 1))))) := ⟨_, rfl⟩
      have hm : mS D mCl (mA ad G s.heap.size) s.heap ad_4 G_7 H locs := by rw [eG_7]; exact hm
      have g_8 : G_7 2000 = some (.inl ((dA 1), 1, .inr (.inl (vp_updL f 0 1)))) := by rw [eG_7, va_up_self]
      refine lv_goto (tgt := 22) hx hb d_L_bring_16 (by decide) ?_
      refine lv_iconst (v := 0) hx hb d_L_bring_22 (by decide) ?_
      exact m_iret (v := 0) hx hb hr hm (⟨ad_4, x1, vp_updL f 0 1, had, Prod.ext rfl (by
        show G_7 = _
        rw [eG_7, hu9, gE_up 2000 (by decide)]), Or.inl ⟨rfl, r_1, pk_uLs.trans (if_neg c_7).symm, hrel⟩⟩) d_L_bring_23 hlocks

set_option maxHeartbeats 4000000 in
set_option maxRecDepth 100000 in
theorem c_L_life (l : Launch) (hlt : l.stackTraces = false) (D : va_G) (dA : Nat → ClassId) (ad : Nat → Nat) (G : mG) (sz : Nat) (I : Nat → Nat → Int32) (J : Nat → Nat → Int64) (F : Nat → Nat → Nat → Int32) (si : Nat → Nat) (tc oc : Nat) (G0 : mG) (hG : G = gE dA ad I J F si tc oc G0) (ht : tc ≤ 12) (hL : ∀ i, i < 4 → ∃ c, c ≤ 40 ∧ I 2 i = nI c) (p0 p1 : Int32) (ho : oc ≤ 16) (f : Nat → Int64) (hO : G0 2000 = some (.inl (dA 1, 1, .inr (.inl f)))) : Met l y_L_life (.codeWith y_L_life b_L_life 5 (some .int) [(0, 10, 13, 13), (0, 10, 17, 15), (0, 10, 21, 17)] :: mBig) ({ frames := 8, cells := 2, slots := 12, locals := 127 }) (mPc [.ref (ad 0), .int p0, .int p1, .ref (ad 2000)] D mCl (mTys dA) mTx ad G sz) (mQi (fun (rv : Int32) (u : mU) => (∃ (ad1 : Nat → Nat) (x1 : eS) (f1 : Nat → Int64), (∀ k, k = 0 ∨ 1000 ≤ k → ad1 k = ad k) ∧ u = (ad1, gEx dA ad1 x1 (va_up G0 2000 (some (.inl (dA 1, 1, .inr (.inl f1)))))) ∧ R_L_life I J F si tc oc p0 p1 rv (f1 0) x1)) D mCl ad G sz) 2 12 (mA ad G sz) := by
  refine va_MetW (cc := b_L_life) (maxL := 5) (ret := (some .int)) (hh := [(0, 10, 13, 13), (0, 10, 17, 15), (0, 10, 21, 17)]) (by decide) rfl ?_
  intro p e s m args below meth c s₁ BB hml hv
  obtain ⟨rfl, hsz, hw0, hC⟩ := hv
  have hx := BB.exec
  have hb := BB.bytes
  have hr := BB.returns
  have hts := atoms_spec (ws := .codeWith y_L_life b_L_life 5 (some .int) [(0, 10, 13, 13), (0, 10, 17, 15), (0, 10, 21, 17)] :: mBig) BB.pre
  have hT : ∀ w ∈ mBig, w.before _ s = true := fun w h => hts w (List.mem_cons_of_mem _ h)
  have hown : s.vm.findClass "EdgeWearLaw" = some m.cls := findClass_of_methodNamed BB.named
  have htab := vx_table (x := y_L_life) BB (hts _ List.mem_cons_self)
  have hlocks := BB.notSynchronized
  subst hsz
  have hm := mS.start hw0
  have hA : ∀ q : Nat, s.heap.size ≤ q → mA ad G s.heap.size q := fun q h => Or.inr h
  have hl := lv_entry ([.ref (ad 0), .int p0, .int p1, .ref (ad 2000)]) (n := 5) (Nat.le_of_ble_eq_true rfl)
  rw [lg_entry_eq]
  generalize (lg_sl ([.ref (ad 0), .int p0, .int p1, .ref (ad 2000)]) ++ List.replicate (5 - (lg_sl ([.ref (ad 0), .int p0, .int p1, .ref (ad 2000)])).length) Slot.unset).toArray = ls at hl ⊢
  have hl : lv_has ls 5 [(0, .ref (ad 0)), (1, .int p0), (2, .int p1), (3, .ref (ad 2000))] := hl
  refine lv_aload_n hx hb d_L_life_0 rfl (lv_at hl 3 rfl) ?_
  refine lv_iconst (v := 0) hx hb d_L_life_1 (by decide) ?_
  refine lv_aload_n hx hb d_L_life_2 rfl (lv_at hl 0 rfl) ?_
  refine lv_iload_n hx hb d_L_life_3 rfl (lv_at hl 1 rfl) ?_
  refine lv_iload_n hx hb d_L_life_4 rfl (lv_at hl 2 rfl) ?_
  refine x_calli (x_runV (As := [.int p0, .int p1]) (rest := [.int 0, .ref (ad 2000)]) ⟨hx, hb, hml, hown, hts⟩ (c_E_life l hlt D dA ad G s.heap.size I J F si tc oc G0 hG ht hL p0 p1) (cwV 2 hts (gV k_400 k_397 k_398 k_399 k_1) rfl rfl rfl (by decide +kernel) ⟨Nat.le_of_ble_eq_true rfl, Nat.le_of_ble_eq_true rfl⟩) hm hA hC 0 rfl ((congrFun hG 0).trans gE_c0) rfl rfl rfl hl.1 rfl (Nat.le_of_ble_eq_true rfl) d_L_life_5 ⟨Nat.le_of_ble_eq_true rfl, Nat.le_of_ble_eq_true rfl⟩) hm hA (fun E ce q9 ad_4 G_3 H locs w_2 hm h7 h8 h9 => ?_) (fun r_1 ad_4 G_3 H locs w_2 hm => ?_)
  · obtain ⟨hpx, hu9⟩ := w_2
    obtain ⟨ea9, eg9⟩ := Prod.mk.inj hu9
    rw [ea9, eg9] at hm
    rcases hpx with ⟨rfl, hq⟩ | ⟨rfl, hq⟩ | ⟨rfl, hq⟩
    · refine vx_catch (own := "EdgeWearLaw") (name := "java/lang/IndexOutOfBoundsException") hown [] ⟨0, 10, 13, 13⟩ [⟨0, 10, 17, 15⟩, ⟨0, 10, 21, 17⟩] (htab.trans rfl) (fun _ h => absurd h List.not_mem_nil) rfl (by decide) (hT _ k_122) (hC.2.2.2.use (w := .castable "java/lang/IndexOutOfBoundsException" "java/lang/IndexOutOfBoundsException") (by decide +kernel)) h7 h8 h9 ?_
      refine W.eq (g2 := F0 m 13 ls [.ref q9]) rfl ?_
      refine lv_astore (lv' := [(4, .ref q9), (0, .ref (ad 0)), (1, .int p0), (2, .int p1), (3, .ref (ad 2000))]) hx hb d_L_life_13 hl (by decide) rfl (fun ls hl => ?_)
      refine lv_iconst (v := 1) hx hb d_L_life_15 (by decide) ?_
      exact m_iret (v := 1) hx hb hr hm (⟨ad, (I, J, F, si, tc, oc), f, fun _ _ => rfl, Prod.ext rfl (hG.trans (congrArg (gE dA ad I J F si tc oc) (va_upid hO).symm)), Or.inr (Or.inl ⟨rfl, hq, rfl⟩)⟩) d_L_life_16 hlocks
    · refine vx_catch (own := "EdgeWearLaw") (name := "java/lang/IllegalArgumentException") hown [⟨0, 10, 13, 13⟩] ⟨0, 10, 17, 15⟩ [⟨0, 10, 21, 17⟩] (htab.trans rfl) (List.forall_mem_cons.mpr ⟨Or.inr ⟨by decide, "java/lang/IndexOutOfBoundsException", hT _ k_122, hC.2.2.2.2.2.1⟩, fun _ h => absurd h List.not_mem_nil⟩) rfl (by decide) (hT _ k_123) (hC.2.2.2.use (w := .castable "java/lang/IllegalArgumentException" "java/lang/IllegalArgumentException") (by decide +kernel)) h7 h8 h9 ?_
      refine W.eq (g2 := F0 m 17 ls [.ref q9]) rfl ?_
      refine lv_astore (lv' := [(4, .ref q9), (0, .ref (ad 0)), (1, .int p0), (2, .int p1), (3, .ref (ad 2000))]) hx hb d_L_life_17 hl (by decide) rfl (fun ls hl => ?_)
      refine lv_iconst (v := 2) hx hb d_L_life_19 (by decide) ?_
      exact m_iret (v := 2) hx hb hr hm (⟨ad, (I, J, F, si, tc, oc), f, fun _ _ => rfl, Prod.ext rfl (hG.trans (congrArg (gE dA ad I J F si tc oc) (va_upid hO).symm)), Or.inr (Or.inr (Or.inl ⟨rfl, hq, rfl⟩))⟩) d_L_life_20 hlocks
    · refine vx_catch (own := "EdgeWearLaw") (name := "java/lang/IllegalStateException") hown [⟨0, 10, 13, 13⟩, ⟨0, 10, 17, 15⟩] ⟨0, 10, 21, 17⟩ [] (htab.trans rfl) (List.forall_mem_cons.mpr ⟨Or.inr ⟨by decide, "java/lang/IndexOutOfBoundsException", hT _ k_122, hC.2.2.2.2.2.2.1⟩, List.forall_mem_cons.mpr ⟨Or.inr ⟨by decide, "java/lang/IllegalArgumentException", hT _ k_123, hC.2.2.2.2.2.2.2⟩, fun _ h => absurd h List.not_mem_nil⟩⟩) rfl (by decide) (hT _ k_124) (hC.2.2.2.use (w := .castable "java/lang/IllegalStateException" "java/lang/IllegalStateException") (by decide +kernel)) h7 h8 h9 ?_
      refine W.eq (g2 := F0 m 21 ls [.ref q9]) rfl ?_
      refine lv_astore (lv' := [(4, .ref q9), (0, .ref (ad 0)), (1, .int p0), (2, .int p1), (3, .ref (ad 2000))]) hx hb d_L_life_21 hl (by decide) rfl (fun ls hl => ?_)
      refine lv_iconst (v := 3) hx hb d_L_life_23 (by decide) ?_
      exact m_iret (v := 3) hx hb hr hm (⟨ad, (I, J, F, si, tc, oc), f, fun _ _ => rfl, Prod.ext rfl (hG.trans (congrArg (gE dA ad I J F si tc oc) (va_upid hO).symm)), Or.inr (Or.inr (Or.inr (⟨rfl, hq, rfl⟩)))⟩) d_L_life_24 hlocks
  · obtain ⟨x1, had, hu9, hrel⟩ := kE_life ht ho w_2
    replace hu9 : G_3 = gEx dA ad_4 x1 G0 := hu9
    replace had : ∀ k, k = 0 ∨ 1000 ≤ k → ad_4 k = ad k := had
    have ho9 : G_3 2000 = some (.inl (dA 1, 1, .inr (.inl f))) := by
      rw [hu9]
      exact (gE_out (by decide)).trans hO
    refine lv_i2l hx hb d_L_life_8 rfl ?_
    refine lv_topl (fun x_5 ex_5 => ?_)
    refine m_last hx hb hC.1 hm 2000 (had 2000 (Or.inr (by decide))).symm 1 ho9 rfl (vpc _ _ (by decide)) d_L_life_9 (fun H locs hm => ?_)
    obtain ⟨G_6, eG_6⟩ : ∃ z : mG, z = va_up G_3 2000 (some (.inl ((dA 1), 1, .inr (.inl (vp_updL f 0 x_5))))) := ⟨_, rfl⟩
    have hm : mS D mCl (mA ad G s.heap.size) s.heap ad_4 G_6 H locs := by rw [eG_6]; exact hm
    have g_7 : G_6 2000 = some (.inl ((dA 1), 1, .inr (.inl (vp_updL f 0 x_5)))) := by rw [eG_6, va_up_self]
    refine lv_goto (tgt := 25) hx hb d_L_life_10 (by decide) ?_
    refine lv_iconst (v := 0) hx hb d_L_life_25 (by decide) ?_
    exact m_iret (v := 0) hx hb hr hm (⟨ad_4, x1, vp_updL f 0 x_5, had, Prod.ext rfl (by
      show G_6 = _
      rw [eG_6, hu9, gE_up 2000 (by decide)]), Or.inl ⟨rfl, r_1, pk_uLs.trans ex_5, hrel⟩⟩) d_L_life_26 hlocks
