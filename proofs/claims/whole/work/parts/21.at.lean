set_option maxHeartbeats 4000000 in
set_option maxRecDepth 100000 in
theorem c_E_toolAt (l : Launch) (hlt : l.stackTraces = false) (D : va_G) (dA : Nat → ClassId) (ad : Nat → Nat) (G : mG) (sz : Nat) (I : Nat → Nat → Int32) (J : Nat → Nat → Int64) (F : Nat → Nat → Nat → Int32) (si : Nat → Nat) (tc oc : Nat) (G0 : mG) (hG : G = gE dA ad I J F si tc oc G0) (ht : tc ≤ 12) (p0 : Int32) : vx_Met l y_E_toolAt (.code y_E_toolAt b_E_toolAt 3 (some (.object "EdgeWear$Tool")) :: mBig) ({ frames := 6, cells := 1, slots := 6, locals := 82 }) (mPc [.ref (ad 0), .int p0] D mCl (mTys dA) mTx ad G sz) (mQq (fun (rv : Option Nat) (u : mU) => (∃ i, i < tc ∧ p0 = nI i ∧ rv = some (ad (100 + i))) ∧ u = (ad, G)) D mCl ad G sz) (mXC (fun (E : String) (u : mU) => (E = "java/lang/IndexOutOfBoundsException" ∧ ¬ ∃ i, i < tc ∧ p0 = nI i) ∧ u = (ad, G)) D mCl ad G sz) 1 6 (mA ad G sz) := by
  refine vx_ofW (cc := b_E_toolAt) (maxL := 3) (ret := (some (.object "EdgeWear$Tool"))) (by decide) rfl ?_
  intro p e s m args below meth c s₁ B hml hout hv
  obtain ⟨rfl, hsz, hw0, hC⟩ := hv
  have hx := B.exec
  have hb := B.bytes
  have hr := B.returns
  have hts := atoms_spec (ws := .code y_E_toolAt b_E_toolAt 3 (some (.object "EdgeWear$Tool")) :: mBig) B.pre
  have hT : ∀ w ∈ mBig, w.before _ s = true := fun w h => hts w (List.mem_cons_of_mem _ h)
  have hown : s.vm.findClass "EdgeWear" = some m.cls := findClass_of_methodNamed B.named
  have hlocks := B.notSynchronized
  subst hsz
  have hm := mS.start hw0
  have hA : ∀ q : Nat, s.heap.size ≤ q → mA ad G s.heap.size q := fun q h => Or.inr h
  have hl := lv_entry ([.ref (ad 0), .int p0]) (n := 3) (Nat.le_of_ble_eq_true rfl)
  rw [lg_entry_eq]
  generalize (lg_sl ([.ref (ad 0), .int p0]) ++ List.replicate (3 - (lg_sl ([.ref (ad 0), .int p0])).length) Slot.unset).toArray = ls at hl ⊢
  have hl : lv_has ls 3 [(0, .ref (ad 0)), (1, .int p0)] := hl
  refine lv_iload_n hx hb d_E_toolAt_0 rfl (lv_at hl 1 rfl) ?_
  refine lv_if_lt (tgt := 22) hx hb d_E_toolAt_1 (by decide) (fun c_1 => ?_) (fun c_1 => ?_)
  · refine lv_null hx hb d_E_toolAt_22 ?_
    refine lv_astore_nN (lv' := [(2, .null), (0, .ref (ad 0)), (1, .int p0)]) hx hb d_E_toolAt_23 rfl hl (by decide) rfl (fun ls hl => ?_)
    refine lv_aload_nN hx hb d_E_toolAt_24 rfl (lv_at hl 0 rfl) ?_
    refine lv_ifnonnullN hx hb d_E_toolAt_25 ?_
    exact m_throwSW (cls := "java/lang/IndexOutOfBoundsException") (text := "no such tool") (names := ["java/lang/RuntimeException", "java/lang/Exception"]) (tx := mTx) hx hb hlt hown (by decide +kernel) (by decide +kernel) (hT _ k_133) (hT _ k_8) (by decide +kernel) hC (at_IndexOutOfBoundsException hT hC.2.2.2) (good_IndexOutOfBoundsException) hm (hl.1.trans hml.symm) d_E_toolAt_28 d_E_toolAt_31 d_E_toolAt_32 d_E_toolAt_35 d_E_toolAt_38 hout (Nat.le_of_ble_eq_true rfl) (Nat.le_of_ble_eq_true rfl) (Nat.le_of_ble_eq_true rfl) (Nat.le_of_ble_eq_true rfl) hlocks (⟨⟨rfl, fun h => by
      obtain ⟨j, hj, ej⟩ := h
      rw [ej] at c_1
      exact nI_pos (by omega) c_1⟩, rfl⟩) (Nat.le_of_ble_eq_true rfl) (Nat.le_of_ble_eq_true rfl)
  · refine lv_iload_n hx hb d_E_toolAt_4 rfl (lv_at hl 1 rfl) ?_
    refine lv_aload_n hx hb d_E_toolAt_5 rfl (lv_at hl 0 rfl) ?_
    refine m_get (v := .ref (ad 3)) (C := R_E) (T := T_E) (N := 8) hx hb hT in_E hown hC.1 hm 0 rfl ((congrFun hG 0).trans gE_c0) rfl 3 (by decide) (hT _ k_90) (fun _ h9 => h9) rfl d_E_toolAt_6 ?_
    refine m_alen (v := 12) hx hb hC.1 hm 3 rfl 4 ((congrFun hG 3).trans gE_c3) rfl rfl d_E_toolAt_9 ?_
    refine lv_icmp_ge (tgt := 22) hx hb d_E_toolAt_10 (by decide) (fun c_10 => ?_) (fun c_10 => ?_)
    · refine lv_null hx hb d_E_toolAt_22 ?_
      refine lv_astore_nN (lv' := [(2, .null), (0, .ref (ad 0)), (1, .int p0)]) hx hb d_E_toolAt_23 rfl hl (by decide) rfl (fun ls hl => ?_)
      refine lv_aload_nN hx hb d_E_toolAt_24 rfl (lv_at hl 0 rfl) ?_
      refine lv_ifnonnullN hx hb d_E_toolAt_25 ?_
      exact m_throwSW (cls := "java/lang/IndexOutOfBoundsException") (text := "no such tool") (names := ["java/lang/RuntimeException", "java/lang/Exception"]) (tx := mTx) hx hb hlt hown (by decide +kernel) (by decide +kernel) (hT _ k_133) (hT _ k_8) (by decide +kernel) hC (at_IndexOutOfBoundsException hT hC.2.2.2) (good_IndexOutOfBoundsException) hm (hl.1.trans hml.symm) d_E_toolAt_28 d_E_toolAt_31 d_E_toolAt_32 d_E_toolAt_35 d_E_toolAt_38 hout (Nat.le_of_ble_eq_true rfl) (Nat.le_of_ble_eq_true rfl) (Nat.le_of_ble_eq_true rfl) (Nat.le_of_ble_eq_true rfl) hlocks (⟨⟨rfl, fun h => by
        obtain ⟨j, hj, ej⟩ := h
        rw [ej] at c_10
        have := (nI_leI (a := 12) (by decide) (by omega)).mp c_10
        omega⟩, rfl⟩) (Nat.le_of_ble_eq_true rfl) (Nat.le_of_ble_eq_true rfl)
    · obtain ⟨i, hi, ep⟩ : ∃ j : Nat, j < 12 ∧ p0 = nI j := by
        rcases pk_ix p0 (n := 12) (by decide) with h | h | h
        · exact absurd h c_1
        · exact absurd h c_10
        · exact h
      by_cases hi2 : i < tc
      · refine lv_aload_n hx hb d_E_toolAt_13 rfl (lv_at hl 0 rfl) ?_
        refine m_get (v := .ref (ad 3)) (C := R_E) (T := T_E) (N := 8) hx hb hT in_E hown hC.1 hm 0 rfl ((congrFun hG 0).trans gE_c0) rfl 3 (by decide) (hT _ k_90) (fun _ h9 => h9) rfl d_E_toolAt_14 ?_
        refine lv_iload_n hx hb d_E_toolAt_17 rfl (lv_at hl 1 rfl) ?_
        refine m_aald (v := .ref (ad (100 + i))) hx hb hC.1 hm 3 rfl 4 ((congrFun hG 3).trans gE_c3) rfl (by rw [ep]; exact vp_in_nI hi (by decide)) (by rw [ep, nI_clamp (by omega)]; simp only [hi2, if_true]; rfl) d_E_toolAt_18 ?_
        refine lv_goto (tgt := 23) hx hb d_E_toolAt_19 (by decide) ?_
        refine lv_astore_n (lv' := [(2, .ref (ad (100 + i))), (0, .ref (ad 0)), (1, .int p0)]) hx hb d_E_toolAt_23 rfl hl (by decide) rfl (fun ls hl => ?_)
        refine lv_aload_n hx hb d_E_toolAt_24 rfl (lv_at hl 0 rfl) ?_
        refine lv_ifnonnull (tgt := 39) hx hb d_E_toolAt_25 (by decide) ?_
        refine lv_aload_n hx hb d_E_toolAt_39 rfl (lv_at hl 0 rfl) ?_
        refine W.widen (k := 1) (n := 6) (by omega) (by omega) ?_
        refine vx_ret ?_
        exact m_aret (r := some (ad (100 + i))) hx hb hr rfl hm (⟨⟨i, hi2, ep, rfl⟩, rfl⟩) d_E_toolAt_40 hlocks
      · refine lv_aload_n hx hb d_E_toolAt_13 rfl (lv_at hl 0 rfl) ?_
        refine m_get (v := .ref (ad 3)) (C := R_E) (T := T_E) (N := 8) hx hb hT in_E hown hC.1 hm 0 rfl ((congrFun hG 0).trans gE_c0) rfl 3 (by decide) (hT _ k_90) (fun _ h9 => h9) rfl d_E_toolAt_14 ?_
        refine lv_iload_n hx hb d_E_toolAt_17 rfl (lv_at hl 1 rfl) ?_
        refine m_aald (v := .null) hx hb hC.1 hm 3 rfl 4 ((congrFun hG 3).trans gE_c3) rfl (by rw [ep]; exact vp_in_nI hi (by decide)) (by rw [ep, nI_clamp (by omega)]; simp only [hi2, if_false]; rfl) d_E_toolAt_18 ?_
        refine lv_goto (tgt := 23) hx hb d_E_toolAt_19 (by decide) ?_
        refine lv_astore_nN (lv' := [(2, .null), (0, .ref (ad 0)), (1, .int p0)]) hx hb d_E_toolAt_23 rfl hl (by decide) rfl (fun ls hl => ?_)
        refine lv_aload_nN hx hb d_E_toolAt_24 rfl (lv_at hl 0 rfl) ?_
        refine lv_ifnonnullN hx hb d_E_toolAt_25 ?_
        exact m_throwSW (cls := "java/lang/IndexOutOfBoundsException") (text := "no such tool") (names := ["java/lang/RuntimeException", "java/lang/Exception"]) (tx := mTx) hx hb hlt hown (by decide +kernel) (by decide +kernel) (hT _ k_133) (hT _ k_8) (by decide +kernel) hC (at_IndexOutOfBoundsException hT hC.2.2.2) (good_IndexOutOfBoundsException) hm (hl.1.trans hml.symm) d_E_toolAt_28 d_E_toolAt_31 d_E_toolAt_32 d_E_toolAt_35 d_E_toolAt_38 hout (Nat.le_of_ble_eq_true rfl) (Nat.le_of_ble_eq_true rfl) (Nat.le_of_ble_eq_true rfl) (Nat.le_of_ble_eq_true rfl) hlocks (⟨⟨rfl, fun h => by
          obtain ⟨j, hj, ej⟩ := h
          rw [ep] at ej
          have := (nI_eq (by omega) (by omega)).mp ej
          omega⟩, rfl⟩) (Nat.le_of_ble_eq_true rfl) (Nat.le_of_ble_eq_true rfl)

set_option maxHeartbeats 4000000 in
set_option maxRecDepth 100000 in
theorem c_E_sortAt (l : Launch) (hlt : l.stackTraces = false) (D : va_G) (dA : Nat → ClassId) (ad : Nat → Nat) (G : mG) (sz : Nat) (I : Nat → Nat → Int32) (J : Nat → Nat → Int64) (F : Nat → Nat → Nat → Int32) (si : Nat → Nat) (tc oc : Nat) (G0 : mG) (hG : G = gE dA ad I J F si tc oc G0) (ht : tc ≤ 12) (p0 : Int32) : vx_Met l y_E_sortAt (.code y_E_sortAt b_E_sortAt 3 (some (.object "EdgeWear$Sort")) :: mBig) ({ frames := 6, cells := 1, slots := 6, locals := 82 }) (mPc [.ref (ad 0), .int p0] D mCl (mTys dA) mTx ad G sz) (mQq (fun (rv : Option Nat) (u : mU) => (∃ i, i < 4 ∧ p0 = nI i ∧ rv = some (ad (10 + i))) ∧ u = (ad, G)) D mCl ad G sz) (mXC (fun (E : String) (u : mU) => (E = "java/lang/IndexOutOfBoundsException" ∧ ¬ ∃ i, i < 4 ∧ p0 = nI i) ∧ u = (ad, G)) D mCl ad G sz) 1 6 (mA ad G sz) := by
  refine vx_ofW (cc := b_E_sortAt) (maxL := 3) (ret := (some (.object "EdgeWear$Sort"))) (by decide) rfl ?_
  intro p e s m args below meth c s₁ B hml hout hv
  obtain ⟨rfl, hsz, hw0, hC⟩ := hv
  have hx := B.exec
  have hb := B.bytes
  have hr := B.returns
  have hts := atoms_spec (ws := .code y_E_sortAt b_E_sortAt 3 (some (.object "EdgeWear$Sort")) :: mBig) B.pre
  have hT : ∀ w ∈ mBig, w.before _ s = true := fun w h => hts w (List.mem_cons_of_mem _ h)
  have hown : s.vm.findClass "EdgeWear" = some m.cls := findClass_of_methodNamed B.named
  have hlocks := B.notSynchronized
  subst hsz
  have hm := mS.start hw0
  have hA : ∀ q : Nat, s.heap.size ≤ q → mA ad G s.heap.size q := fun q h => Or.inr h
  have hl := lv_entry ([.ref (ad 0), .int p0]) (n := 3) (Nat.le_of_ble_eq_true rfl)
  rw [lg_entry_eq]
  generalize (lg_sl ([.ref (ad 0), .int p0]) ++ List.replicate (3 - (lg_sl ([.ref (ad 0), .int p0])).length) Slot.unset).toArray = ls at hl ⊢
  have hl : lv_has ls 3 [(0, .ref (ad 0)), (1, .int p0)] := hl
  refine lv_iload_n hx hb d_E_sortAt_0 rfl (lv_at hl 1 rfl) ?_
  refine lv_if_lt (tgt := 22) hx hb d_E_sortAt_1 (by decide) (fun c_1 => ?_) (fun c_1 => ?_)
  · refine lv_null hx hb d_E_sortAt_22 ?_
    refine lv_astore_nN (lv' := [(2, .null), (0, .ref (ad 0)), (1, .int p0)]) hx hb d_E_sortAt_23 rfl hl (by decide) rfl (fun ls hl => ?_)
    refine lv_aload_nN hx hb d_E_sortAt_24 rfl (lv_at hl 0 rfl) ?_
    refine lv_ifnonnullN hx hb d_E_sortAt_25 ?_
    exact m_throwSW (cls := "java/lang/IndexOutOfBoundsException") (text := "no such sort") (names := ["java/lang/RuntimeException", "java/lang/Exception"]) (tx := mTx) hx hb hlt hown (by decide +kernel) (by decide +kernel) (hT _ k_133) (hT _ k_8) (by decide +kernel) hC (at_IndexOutOfBoundsException hT hC.2.2.2) (good_IndexOutOfBoundsException) hm (hl.1.trans hml.symm) d_E_sortAt_28 d_E_sortAt_31 d_E_sortAt_32 d_E_sortAt_35 d_E_sortAt_38 hout (Nat.le_of_ble_eq_true rfl) (Nat.le_of_ble_eq_true rfl) (Nat.le_of_ble_eq_true rfl) (Nat.le_of_ble_eq_true rfl) hlocks (⟨⟨rfl, fun h => by
      obtain ⟨j, hj, ej⟩ := h
      rw [ej] at c_1
      exact nI_pos (by omega) c_1⟩, rfl⟩) (Nat.le_of_ble_eq_true rfl) (Nat.le_of_ble_eq_true rfl)
  · refine lv_iload_n hx hb d_E_sortAt_4 rfl (lv_at hl 1 rfl) ?_
    refine lv_aload_n hx hb d_E_sortAt_5 rfl (lv_at hl 0 rfl) ?_
    refine m_get (v := .ref (ad 2)) (C := R_E) (T := T_E) (N := 8) hx hb hT in_E hown hC.1 hm 0 rfl ((congrFun hG 0).trans gE_c0) rfl 2 (by decide) (hT _ k_89) (fun _ h9 => h9) rfl d_E_sortAt_6 ?_
    refine m_alen (v := 4) hx hb hC.1 hm 2 rfl 3 ((congrFun hG 2).trans gE_c2) rfl rfl d_E_sortAt_9 ?_
    refine lv_icmp_ge (tgt := 22) hx hb d_E_sortAt_10 (by decide) (fun c_10 => ?_) (fun c_10 => ?_)
    · refine lv_null hx hb d_E_sortAt_22 ?_
      refine lv_astore_nN (lv' := [(2, .null), (0, .ref (ad 0)), (1, .int p0)]) hx hb d_E_sortAt_23 rfl hl (by decide) rfl (fun ls hl => ?_)
      refine lv_aload_nN hx hb d_E_sortAt_24 rfl (lv_at hl 0 rfl) ?_
      refine lv_ifnonnullN hx hb d_E_sortAt_25 ?_
      exact m_throwSW (cls := "java/lang/IndexOutOfBoundsException") (text := "no such sort") (names := ["java/lang/RuntimeException", "java/lang/Exception"]) (tx := mTx) hx hb hlt hown (by decide +kernel) (by decide +kernel) (hT _ k_133) (hT _ k_8) (by decide +kernel) hC (at_IndexOutOfBoundsException hT hC.2.2.2) (good_IndexOutOfBoundsException) hm (hl.1.trans hml.symm) d_E_sortAt_28 d_E_sortAt_31 d_E_sortAt_32 d_E_sortAt_35 d_E_sortAt_38 hout (Nat.le_of_ble_eq_true rfl) (Nat.le_of_ble_eq_true rfl) (Nat.le_of_ble_eq_true rfl) (Nat.le_of_ble_eq_true rfl) hlocks (⟨⟨rfl, fun h => by
        obtain ⟨j, hj, ej⟩ := h
        rw [ej] at c_10
        have := (nI_leI (a := 4) (by decide) (by omega)).mp c_10
        omega⟩, rfl⟩) (Nat.le_of_ble_eq_true rfl) (Nat.le_of_ble_eq_true rfl)
    · obtain ⟨i, hi, ep⟩ : ∃ j : Nat, j < 4 ∧ p0 = nI j := by
        rcases pk_ix p0 (n := 4) (by decide) with h | h | h
        · exact absurd h c_1
        · exact absurd h c_10
        · exact h
      refine lv_aload_n hx hb d_E_sortAt_13 rfl (lv_at hl 0 rfl) ?_
      refine m_get (v := .ref (ad 2)) (C := R_E) (T := T_E) (N := 8) hx hb hT in_E hown hC.1 hm 0 rfl ((congrFun hG 0).trans gE_c0) rfl 2 (by decide) (hT _ k_89) (fun _ h9 => h9) rfl d_E_sortAt_14 ?_
      refine lv_iload_n hx hb d_E_sortAt_17 rfl (lv_at hl 1 rfl) ?_
      refine m_aald (v := .ref (ad (10 + i))) hx hb hC.1 hm 2 rfl 3 ((congrFun hG 2).trans gE_c2) rfl (by rw [ep]; exact vp_in_nI hi (by decide)) (by rw [ep, nI_clamp (by omega)]; simp only [hi, if_true]; rfl) d_E_sortAt_18 ?_
      refine lv_goto (tgt := 23) hx hb d_E_sortAt_19 (by decide) ?_
      refine lv_astore_n (lv' := [(2, .ref (ad (10 + i))), (0, .ref (ad 0)), (1, .int p0)]) hx hb d_E_sortAt_23 rfl hl (by decide) rfl (fun ls hl => ?_)
      refine lv_aload_n hx hb d_E_sortAt_24 rfl (lv_at hl 0 rfl) ?_
      refine lv_ifnonnull (tgt := 39) hx hb d_E_sortAt_25 (by decide) ?_
      refine lv_aload_n hx hb d_E_sortAt_39 rfl (lv_at hl 0 rfl) ?_
      refine W.widen (k := 1) (n := 6) (by omega) (by omega) ?_
      refine vx_ret ?_
      exact m_aret (r := some (ad (10 + i))) hx hb hr rfl hm (⟨⟨i, hi, ep, rfl⟩, rfl⟩) d_E_sortAt_40 hlocks

set_option maxHeartbeats 4000000 in
set_option maxRecDepth 100000 in
theorem c_E_rateIndex (l : Launch) (hlt : l.stackTraces = false) (D : va_G) (dA : Nat → ClassId) (ad : Nat → Nat) (G : mG) (sz : Nat) (I : Nat → Nat → Int32) (J : Nat → Nat → Int64) (F : Nat → Nat → Nat → Int32) (si : Nat → Nat) (tc oc : Nat) (G0 : mG) (hG : G = gE dA ad I J F si tc oc G0) (ht : tc ≤ 12) (p0 p1 : Int32) : vx_Met l y_E_rateIndex (.code y_E_rateIndex b_E_rateIndex 2 (some .int) :: mBig) ({ frames := 6, cells := 1, slots := 6, locals := 82 }) (mPc [.int p0, .int p1] D mCl (mTys dA) mTx ad G sz) (mQi (fun (rv : Int32) (u : mU) => (∃ a b, a < 4 ∧ b < 4 ∧ p0 = nI a ∧ p1 = nI b ∧ rv = nI (4 * a + b)) ∧ u = (ad, G)) D mCl ad G sz) (mXC (fun (E : String) (u : mU) => (E = "java/lang/IndexOutOfBoundsException" ∧ ¬ ((∃ a, a < 4 ∧ p0 = nI a) ∧ ∃ b, b < 4 ∧ p1 = nI b)) ∧ u = (ad, G)) D mCl ad G sz) 1 6 (mA ad G sz) := by
  refine vx_ofW (cc := b_E_rateIndex) (maxL := 2) (ret := (some .int)) (by decide) rfl ?_
  intro p e s m args below meth c s₁ B hml hout hv
  obtain ⟨rfl, hsz, hw0, hC⟩ := hv
  have hx := B.exec
  have hb := B.bytes
  have hr := B.returns
  have hts := atoms_spec (ws := .code y_E_rateIndex b_E_rateIndex 2 (some .int) :: mBig) B.pre
  have hT : ∀ w ∈ mBig, w.before _ s = true := fun w h => hts w (List.mem_cons_of_mem _ h)
  have hown : s.vm.findClass "EdgeWear" = some m.cls := findClass_of_methodNamed B.named
  have hlocks := B.notSynchronized
  subst hsz
  have hm := mS.start hw0
  have hA : ∀ q : Nat, s.heap.size ≤ q → mA ad G s.heap.size q := fun q h => Or.inr h
  have hl := lv_entry ([.int p0, .int p1]) (n := 2) (Nat.le_of_ble_eq_true rfl)
  rw [lg_entry_eq]
  generalize (lg_sl ([.int p0, .int p1]) ++ List.replicate (2 - (lg_sl ([.int p0, .int p1])).length) Slot.unset).toArray = ls at hl ⊢
  have hl : lv_has ls 2 [(0, .int p0), (1, .int p1)] := hl
  refine lv_iload_n hx hb d_E_rateIndex_0 rfl (lv_at hl 0 rfl) ?_
  refine lv_if_lt (tgt := 18) hx hb d_E_rateIndex_1 (by decide) (fun c_1 => ?_) (fun c_1 => ?_)
  · exact m_throwSW (cls := "java/lang/IndexOutOfBoundsException") (text := "no such kind or speed") (names := ["java/lang/RuntimeException", "java/lang/Exception"]) (tx := mTx) hx hb hlt hown (by decide +kernel) (by decide +kernel) (hT _ k_133) (hT _ k_8) (by decide +kernel) hC (at_IndexOutOfBoundsException hT hC.2.2.2) (good_IndexOutOfBoundsException) hm (hl.1.trans hml.symm) d_E_rateIndex_18 d_E_rateIndex_21 d_E_rateIndex_22 d_E_rateIndex_25 d_E_rateIndex_28 hout (Nat.le_of_ble_eq_true rfl) (Nat.le_of_ble_eq_true rfl) (Nat.le_of_ble_eq_true rfl) (Nat.le_of_ble_eq_true rfl) hlocks (⟨⟨rfl, by
      rintro ⟨⟨a, ha, ea⟩, b, hb9, eb⟩
      subst ea; subst eb
      exact nI_pos (by omega) c_1⟩, rfl⟩) (Nat.le_of_ble_eq_true rfl) (Nat.le_of_ble_eq_true rfl)
  · refine lv_iload_n hx hb d_E_rateIndex_4 rfl (lv_at hl 0 rfl) ?_
    refine lv_iconst (v := 4) hx hb d_E_rateIndex_5 (by decide) ?_
    refine lv_icmp_ge (tgt := 18) hx hb d_E_rateIndex_6 (by decide) (fun c_6 => ?_) (fun c_6 => ?_)
    · exact m_throwSW (cls := "java/lang/IndexOutOfBoundsException") (text := "no such kind or speed") (names := ["java/lang/RuntimeException", "java/lang/Exception"]) (tx := mTx) hx hb hlt hown (by decide +kernel) (by decide +kernel) (hT _ k_133) (hT _ k_8) (by decide +kernel) hC (at_IndexOutOfBoundsException hT hC.2.2.2) (good_IndexOutOfBoundsException) hm (hl.1.trans hml.symm) d_E_rateIndex_18 d_E_rateIndex_21 d_E_rateIndex_22 d_E_rateIndex_25 d_E_rateIndex_28 hout (Nat.le_of_ble_eq_true rfl) (Nat.le_of_ble_eq_true rfl) (Nat.le_of_ble_eq_true rfl) (Nat.le_of_ble_eq_true rfl) hlocks (⟨⟨rfl, by
        rintro ⟨⟨a, ha, ea⟩, b, hb9, eb⟩
        subst ea; subst eb
        exact nI_ge (b := 4) ha (by decide) c_6⟩, rfl⟩) (Nat.le_of_ble_eq_true rfl) (Nat.le_of_ble_eq_true rfl)
    · refine lv_iload_n hx hb d_E_rateIndex_9 rfl (lv_at hl 1 rfl) ?_
      refine lv_if_lt (tgt := 18) hx hb d_E_rateIndex_10 (by decide) (fun c_10 => ?_) (fun c_10 => ?_)
      · exact m_throwSW (cls := "java/lang/IndexOutOfBoundsException") (text := "no such kind or speed") (names := ["java/lang/RuntimeException", "java/lang/Exception"]) (tx := mTx) hx hb hlt hown (by decide +kernel) (by decide +kernel) (hT _ k_133) (hT _ k_8) (by decide +kernel) hC (at_IndexOutOfBoundsException hT hC.2.2.2) (good_IndexOutOfBoundsException) hm (hl.1.trans hml.symm) d_E_rateIndex_18 d_E_rateIndex_21 d_E_rateIndex_22 d_E_rateIndex_25 d_E_rateIndex_28 hout (Nat.le_of_ble_eq_true rfl) (Nat.le_of_ble_eq_true rfl) (Nat.le_of_ble_eq_true rfl) (Nat.le_of_ble_eq_true rfl) hlocks (⟨⟨rfl, by
          rintro ⟨⟨a, ha, ea⟩, b, hb9, eb⟩
          subst ea; subst eb
          exact nI_pos (by omega) c_10⟩, rfl⟩) (Nat.le_of_ble_eq_true rfl) (Nat.le_of_ble_eq_true rfl)
      · refine lv_iload_n hx hb d_E_rateIndex_13 rfl (lv_at hl 1 rfl) ?_
        refine lv_iconst (v := 4) hx hb d_E_rateIndex_14 (by decide) ?_
        refine lv_icmp_lt (tgt := 29) hx hb d_E_rateIndex_15 (by decide) (fun c_15 => ?_) (fun c_15 => ?_)
        · obtain ⟨a, ha, ea⟩ : ∃ j : Nat, j < 4 ∧ p0 = nI j := by
            rcases pk_ix p0 (n := 4) (by decide) with h | h | h
            · exact absurd h c_1
            · exact absurd h c_6
            · exact h
          obtain ⟨b, hb9, eb⟩ : ∃ j : Nat, j < 4 ∧ p1 = nI j := by
            rcases pk_ix p1 (n := 4) (by decide) with h | h | h
            · exact absurd h c_10
            · exact absurd c_15 (Int32.not_lt.mpr h)
            · exact h
          refine lv_iload_n hx hb d_E_rateIndex_29 rfl (lv_at hl 0 rfl) ?_
          refine lv_iconst (v := 4) hx hb d_E_rateIndex_30 (by decide) ?_
          refine lv_imul hx hb d_E_rateIndex_31 ?_
          refine lv_topi (fun x_1 ex_1 => ?_)
          refine lv_iload_n hx hb d_E_rateIndex_32 rfl (lv_at hl 1 rfl) ?_
          refine lv_iadd hx hb d_E_rateIndex_33 ?_
          refine lv_topi (fun x_2 ex_2 => ?_)
          refine W.widen (k := 1) (n := 6) (by omega) (by omega) ?_
          refine vx_ret ?_
          exact m_iret (v := x_2) hx hb hr hm (⟨⟨a, b, ha, hb9, ea, eb, by rw [ex_2, ex_1, ea, eb, show (4 : Int32) = nI 4 from rfl, pk_mul, nI_add, Nat.mul_comm]⟩, rfl⟩) d_E_rateIndex_34 hlocks
        · exact m_throwSW (cls := "java/lang/IndexOutOfBoundsException") (text := "no such kind or speed") (names := ["java/lang/RuntimeException", "java/lang/Exception"]) (tx := mTx) hx hb hlt hown (by decide +kernel) (by decide +kernel) (hT _ k_133) (hT _ k_8) (by decide +kernel) hC (at_IndexOutOfBoundsException hT hC.2.2.2) (good_IndexOutOfBoundsException) hm (hl.1.trans hml.symm) d_E_rateIndex_18 d_E_rateIndex_21 d_E_rateIndex_22 d_E_rateIndex_25 d_E_rateIndex_28 hout (Nat.le_of_ble_eq_true rfl) (Nat.le_of_ble_eq_true rfl) (Nat.le_of_ble_eq_true rfl) (Nat.le_of_ble_eq_true rfl) hlocks (⟨⟨rfl, by
            rintro ⟨⟨a, ha, ea⟩, b, hb9, eb⟩
            subst ea; subst eb
            exact c_15 (nI_lt (b := 4) hb9 (by decide))⟩, rfl⟩) (Nat.le_of_ble_eq_true rfl) (Nat.le_of_ble_eq_true rfl)
