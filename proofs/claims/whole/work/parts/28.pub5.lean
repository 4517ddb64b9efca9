set_option maxHeartbeats 4000000 in
set_option maxRecDepth 100000 in
theorem c_E_joined (l : Launch) (hlt : l.stackTraces = false) (D : va_G) (dA : Nat → ClassId) (ad : Nat → Nat) (G : mG) (sz : Nat) (I : Nat → Nat → Int32) (J : Nat → Nat → Int64) (F : Nat → Nat → Nat → Int32) (si : Nat → Nat) (tc oc : Nat) (G0 : mG) (hG : G = gE dA ad I J F si tc oc G0) (ht : tc ≤ 12) (ho : oc ≤ 16) (p0 p1 : Int32) : vx_Met l y_E_joined (.code y_E_joined b_E_joined 4 (some .int) :: mBig) ({ frames := 7, cells := 2, slots := 12, locals := 104 }) (mPc [.ref (ad 0), .int p0, .int p1] D mCl (mTys dA) mTx ad G sz) (mQi (fun (rv : Int32) (u : mU) => (∃ i, i < 4 ∧ p0 = nI i ∧ ¬ (p1 < 0 ∨ 10000 < p1) ∧ ((¬ (∃ t, t < oc ∧ eDu I oc (nI i) (p1 + 2) t = true) ∧ rv = 0 ∧ u = (ad, gE dA ad I J F si tc oc G0)) ∨ ((∃ t, t < oc ∧ eDu I oc (nI i) (p1 + 2) t = true) ∧ rv = nI (eCnt (eDu I oc (nI i) (p1 + 7)) 16) ∧ u = (ad, gE dA ad (eCl I oc (nI i) (p1 + 7) 16) J F si tc oc G0))))) D mCl ad G sz) (mXC (fun (E : String) (u : mU) => ((E = "java/lang/IndexOutOfBoundsException" ∧ ¬ ∃ i, i < 4 ∧ p0 = nI i) ∨ (E = "java/lang/IllegalArgumentException" ∧ (∃ i, i < 4 ∧ p0 = nI i) ∧ (p1 < 0 ∨ 10000 < p1))) ∧ u = (ad, G)) D mCl ad G sz) 2 12 (mA ad G sz) := by
  refine vx_ofW (cc := b_E_joined) (maxL := 4) (ret := (some .int)) (by decide) rfl ?_
  intro p e s m args below meth c s₁ B hml hout hv
  obtain ⟨rfl, hsz, hw0, hC⟩ := hv
  have hx := B.exec
  have hb := B.bytes
  have hr := B.returns
  have hts := atoms_spec (ws := .code y_E_joined b_E_joined 4 (some .int) :: mBig) B.pre
  have hT : ∀ w ∈ mBig, w.before _ s = true := fun w h => hts w (List.mem_cons_of_mem _ h)
  have hown : s.vm.findClass "EdgeWear" = some m.cls := findClass_of_methodNamed B.named
  have hlocks := B.notSynchronized
  subst hsz
  have hm := mS.start hw0
  have hA : ∀ q : Nat, s.heap.size ≤ q → mA ad G s.heap.size q := fun q h => Or.inr h
  have hl := lv_entry ([.ref (ad 0), .int p0, .int p1]) (n := 4) (Nat.le_of_ble_eq_true rfl)
  rw [lg_entry_eq]
  generalize (lg_sl ([.ref (ad 0), .int p0, .int p1]) ++ List.replicate (4 - (lg_sl ([.ref (ad 0), .int p0, .int p1])).length) Slot.unset).toArray = ls at hl ⊢
  have hl : lv_has ls 4 [(0, .ref (ad 0)), (1, .int p0), (2, .int p1)] := hl
  refine lv_aload_n hx hb d_E_joined_0 rfl (lv_at hl 0 rfl) ?_
  refine lv_iload_n hx hb d_E_joined_1 rfl (lv_at hl 1 rfl) ?_
  refine x_roq (x_runV (As := [.int p0]) (rest := []) ⟨hx, hb, hml, hown, hts⟩ (c_E_sortAt l hlt D dA ad G s.heap.size I J F si tc oc G0 hG ht p0) (cwV 1 hts (gV k_132 k_129 k_131 ks_0 k_1) rfl rfl rfl (by decide +kernel) ⟨Nat.le_of_ble_eq_true rfl, Nat.le_of_ble_eq_true rfl⟩) hm hA hC 0 rfl ((congrFun hG 0).trans gE_c0) rfl rfl rfl hl.1 rfl (Nat.le_of_ble_eq_true rfl) d_E_joined_2 ⟨Nat.le_of_ble_eq_true rfl, Nat.le_of_ble_eq_true rfl⟩) hm hA (fun E ce q9 H locs w_2 hm h7 h8 h9 => ?_) (fun r_1 H locs w_2 hm => ?_)
  · exact m_out hout hlocks hm h7 h8 h9 (by
      obtain ⟨rfl, hq⟩ := w_2
      exact ⟨Or.inl ⟨rfl, hq⟩, rfl⟩) (by decide) (by decide)
  · obtain ⟨i, hi, epi, er⟩ := w_2
    subst er
    rw [show va_rf (some (ad (10 + i))) = .ref (ad (10 + i)) from rfl]
    refine m_get (v := .int (nI i)) (C := R_So) (T := T_So) (N := 6) hx hb hT in_So hown hC.1 hm (10 + i) rfl ((congrFun hG (10 + i)).trans (gE_so hi)) rfl 0 (by decide) (hT _ k_34) (fun _ h9 => h9) rfl d_E_joined_5 ?_
    refine lv_istore_n (lv' := [(3, .int (nI i)), (0, .ref (ad 0)), (1, .int p0), (2, .int p1)]) hx hb d_E_joined_8 rfl hl (by decide) rfl (fun ls hl => ?_)
    refine lv_iload_n hx hb d_E_joined_9 rfl (lv_at hl 3 rfl) ?_
    refine lv_if_lt (tgt := 20) hx hb d_E_joined_10 (by decide) (fun c_10 => ?_) (fun c_10 => ?_)
    · exact m_throwS (cls := "java/lang/IllegalArgumentException") (text := "day is not 0 .. 10000") (names := ["java/lang/RuntimeException", "java/lang/Exception"]) (tx := mTx) hx hb hlt hown (by decide +kernel) (by decide +kernel) (hT _ k_202) (hT _ k_9) (by decide +kernel) hC (at_IllegalArgumentException hT hC.2.2.2) (good_IllegalArgumentException) hm (hl.1.trans hml.symm) d_E_joined_20 d_E_joined_23 d_E_joined_24 d_E_joined_26 d_E_joined_29 hout (Nat.le_of_ble_eq_true rfl) (Nat.le_of_ble_eq_true rfl) (Nat.le_of_ble_eq_true rfl) (Nat.le_of_ble_eq_true rfl) hlocks (⟨Or.inr ⟨rfl, ⟨i, hi, epi⟩, Or.inl c_10⟩, rfl⟩) (Nat.le_of_ble_eq_true rfl) (Nat.le_of_ble_eq_true rfl)
    · refine lv_iload_n hx hb d_E_joined_13 rfl (lv_at hl 3 rfl) ?_
      refine lv_sipush (v := 10000) hx hb d_E_joined_14 (by decide) ?_
      refine lv_icmp_le (tgt := 30) hx hb d_E_joined_17 (by decide) (fun c_17 => ?_) (fun c_17 => ?_)
      · refine lv_aload_n hx hb d_E_joined_30 rfl (lv_at hl 1 rfl) ?_
        refine lv_iload_n hx hb d_E_joined_31 rfl (lv_at hl 0 rfl) ?_
        refine lv_iload_n hx hb d_E_joined_32 rfl (lv_at hl 3 rfl) ?_
        refine lv_iconst (v := 2) hx hb d_E_joined_33 (by decide) ?_
        refine lv_iadd hx hb d_E_joined_34 ?_
        refine lv_topi (fun x_3 ex_3 => ?_)
        refine m_roi (m_runV (As := [.int (nI i), .int x_3]) (rest := []) ⟨hx, hb, hml, hown, hts⟩ (c_E_isAnyDue l D dA ad G H.size I J F si tc oc G0 hG ht ho (nI i) x_3) (cwV 2 hts (gV k_560 k_557 k_559 ks_5 k_1) rfl rfl rfl (by decide +kernel) ⟨Nat.le_of_ble_eq_true rfl, Nat.le_of_ble_eq_true rfl⟩) hm hA hC 0 rfl ((congrFun hG 0).trans gE_c0) rfl rfl rfl hl.1 rfl (Nat.le_of_ble_eq_true rfl) d_E_joined_35 ⟨Nat.le_of_ble_eq_true rfl, Nat.le_of_ble_eq_true rfl⟩) hm hA (fun r_4 H locs w_5 hm => ?_)
        refine lv_if_ne (tgt := 43) hx hb d_E_joined_38 (by decide) (fun c_38 => ?_) (fun c_38 => ?_)
        · refine lv_aload_n hx hb d_E_joined_43 rfl (lv_at hl 1 rfl) ?_
          refine lv_iload_n hx hb d_E_joined_44 rfl (lv_at hl 0 rfl) ?_
          refine lv_iload_n hx hb d_E_joined_45 rfl (lv_at hl 3 rfl) ?_
          refine lv_bipush (v := 7) hx hb d_E_joined_46 (by decide) ?_
          refine lv_iadd hx hb d_E_joined_48 ?_
          refine lv_topi (fun x_6 ex_6 => ?_)
          refine m_calli (m_runV (As := [.int (nI i), .int x_6]) (rest := []) ⟨hx, hb, hml, hown, hts⟩ (c_E_closeDue l D dA ad G H.size I J F si tc oc G0 hG ht ho (nI i) x_6) (cwV 2 hts (gV k_568 k_565 k_567 ks_6 k_1) rfl rfl rfl (by decide +kernel) ⟨Nat.le_of_ble_eq_true rfl, Nat.le_of_ble_eq_true rfl⟩) hm hA hC 0 rfl ((congrFun hG 0).trans gE_c0) rfl rfl rfl hl.1 rfl (Nat.le_of_ble_eq_true rfl) d_E_joined_49 ⟨Nat.le_of_ble_eq_true rfl, Nat.le_of_ble_eq_true rfl⟩) hm hA (fun r_7 ad_10 G_9 H locs w_8 hm => ?_)
          refine W.widen (k := 2) (n := 12) (by omega) (by omega) ?_
          refine vx_ret ?_
          exact m_iret (v := r_7) hx hb hr hm (⟨i, hi, epi, fun h => h.elim c_10 (fun h => Int32.not_lt.mpr c_17 h), Or.inr ⟨by have h9 := bv_ne w_5 c_38; rw [ex_3] at h9; exact h9, by have h9 := w_8.1; rw [ex_6] at h9; exact h9, by have h9 := w_8.2; rw [ex_6] at h9; exact h9⟩⟩) d_E_joined_52 hlocks
        · refine lv_iconst (v := 0) hx hb d_E_joined_41 (by decide) ?_
          refine W.widen (k := 2) (n := 12) (by omega) (by omega) ?_
          refine vx_ret ?_
          exact m_iret (v := 0) hx hb hr hm (⟨i, hi, epi, fun h => h.elim c_10 (fun h => Int32.not_lt.mpr c_17 h), Or.inl ⟨by have h9 := bv_eq w_5 c_38; rw [ex_3] at h9; exact h9, rfl, by rw [hG]⟩⟩) d_E_joined_42 hlocks
      · exact m_throwS (cls := "java/lang/IllegalArgumentException") (text := "day is not 0 .. 10000") (names := ["java/lang/RuntimeException", "java/lang/Exception"]) (tx := mTx) hx hb hlt hown (by decide +kernel) (by decide +kernel) (hT _ k_202) (hT _ k_9) (by decide +kernel) hC (at_IllegalArgumentException hT hC.2.2.2) (good_IllegalArgumentException) hm (hl.1.trans hml.symm) d_E_joined_20 d_E_joined_23 d_E_joined_24 d_E_joined_26 d_E_joined_29 hout (Nat.le_of_ble_eq_true rfl) (Nat.le_of_ble_eq_true rfl) (Nat.le_of_ble_eq_true rfl) (Nat.le_of_ble_eq_true rfl) hlocks (⟨Or.inr ⟨rfl, ⟨i, hi, epi⟩, Or.inr (Int32.not_le.mp c_17)⟩, rfl⟩) (Nat.le_of_ble_eq_true rfl) (Nat.le_of_ble_eq_true rfl)

set_option maxHeartbeats 4000000 in
set_option maxRecDepth 100000 in
theorem c_E_mixed (l : Launch) (D : va_G) (dA : Nat → ClassId) (ad : Nat → Nat) (G : mG) (sz : Nat) (I : Nat → Nat → Int32) (J : Nat → Nat → Int64) (F : Nat → Nat → Nat → Int32) (si : Nat → Nat) (tc oc : Nat) (G0 : mG) (hG : G = gE dA ad I J F si tc oc G0) (ht : tc ≤ 12) (p0 p1 : Int32) : Met l y_E_mixed (.code y_E_mixed b_E_mixed 5 (some .long) :: mBig) ({ frames := 0, cells := 0, slots := 0, locals := 0 }) (mPc [.ref (ad 0), .int p0, .int p1] D mCl (mTys dA) mTx ad G sz) (mQl (fun (rv : Int64) (u : mU) => (rv = eMix (I 0 0).toInt64 p0 p1) ∧ u = (ad, G)) D mCl ad G sz) 0 0 (mA ad G sz) := by
  refine Met.ofW (cc := b_E_mixed) (maxL := 5) (ret := (some .long)) (by decide) rfl ?_
  intro p e s m args below meth c s₁ B hml hv
  obtain ⟨rfl, hsz, hw0, hC⟩ := hv
  have hx := B.exec
  have hb := B.bytes
  have hr := B.returns
  have hts := atoms_spec (ws := .code y_E_mixed b_E_mixed 5 (some .long) :: mBig) B.pre
  have hT : ∀ w ∈ mBig, w.before _ s = true := fun w h => hts w (List.mem_cons_of_mem _ h)
  have hown : s.vm.findClass "EdgeWear" = some m.cls := findClass_of_methodNamed B.named
  have hlocks := B.notSynchronized
  subst hsz
  have hm := mS.start hw0
  have hA : ∀ q : Nat, s.heap.size ≤ q → mA ad G s.heap.size q := fun q h => Or.inr h
  have hl := lv_entry ([.ref (ad 0), .int p0, .int p1]) (n := 5) (Nat.le_of_ble_eq_true rfl)
  rw [lg_entry_eq]
  generalize (lg_sl ([.ref (ad 0), .int p0, .int p1]) ++ List.replicate (5 - (lg_sl ([.ref (ad 0), .int p0, .int p1])).length) Slot.unset).toArray = ls at hl ⊢
  have hl : lv_has ls 5 [(0, .ref (ad 0)), (1, .int p0), (2, .int p1)] := hl
  refine lv_aload_n hx hb d_E_mixed_0 rfl (lv_at hl 0 rfl) ?_
  refine m_get (v := .int (I 0 0)) (C := R_E) (T := T_E) (N := 8) hx hb hT in_E hown hC.1 hm 0 rfl ((congrFun hG 0).trans gE_c0) rfl 0 (by decide) (hT _ k_87) (fun _ h9 => h9) rfl d_E_mixed_1 ?_
  refine lv_i2l hx hb d_E_mixed_4 rfl ?_
  refine lv_topl (fun x_1 ex_1 => ?_)
  refine lv_ldc2 (v := 4) hx hb hown (hT _ k_469) d_E_mixed_5 ?_
  refine lv_iload_n hx hb d_E_mixed_8 rfl (lv_at hl 2 rfl) ?_
  refine lv_i2l hx hb d_E_mixed_9 rfl ?_
  refine lv_topl (fun x_2 ex_2 => ?_)
  refine lv_lmul hx hb d_E_mixed_10 ?_
  refine lv_topl (fun x_3 ex_3 => ?_)
  refine lv_iload_n hx hb d_E_mixed_11 rfl (lv_at hl 1 rfl) ?_
  refine lv_i2l hx hb d_E_mixed_12 rfl ?_
  refine lv_topl (fun x_4 ex_4 => ?_)
  refine lv_ladd hx hb d_E_mixed_13 ?_
  refine lv_topl (fun x_5 ex_5 => ?_)
  refine lv_lconst (v := 1) hx hb d_E_mixed_14 (by decide) ?_
  refine lv_ladd hx hb d_E_mixed_15 ?_
  refine lv_topl (fun x_6 ex_6 => ?_)
  refine lv_ldc2 (v := (-7046029254386353131)) hx hb hown (hT _ k_470) d_E_mixed_16 ?_
  refine lv_lmul hx hb d_E_mixed_19 ?_
  refine lv_topl (fun x_7 ex_7 => ?_)
  refine lv_ladd hx hb d_E_mixed_20 ?_
  refine lv_topl (fun x_8 ex_8 => ?_)
  refine lv_lstore_n (lv' := [(3, .long x_8), (0, .ref (ad 0)), (1, .int p0), (2, .int p1)]) hx hb d_E_mixed_21 rfl hl (by decide) rfl (fun ls hl => ?_)
  refine lv_lload_n hx hb d_E_mixed_22 rfl (lv_at hl 0 rfl) ?_
  refine lv_lload_n hx hb d_E_mixed_23 rfl (lv_at hl 0 rfl) ?_
  refine lv_bipush (v := 30) hx hb d_E_mixed_24 (by decide) ?_
  refine lv_lushr hx hb d_E_mixed_26 rfl ?_
  refine lv_topl (fun x_9 ex_9 => ?_)
  refine lv_lxor hx hb d_E_mixed_27 ?_
  refine lv_topl (fun x_10 ex_10 => ?_)
  refine lv_ldc2 (v := (-4658895280553007687)) hx hb hown (hT _ k_471) d_E_mixed_28 ?_
  refine lv_lmul hx hb d_E_mixed_31 ?_
  refine lv_topl (fun x_11 ex_11 => ?_)
  refine lv_lstore_n (lv' := [(3, .long x_11), (0, .ref (ad 0)), (1, .int p0), (2, .int p1)]) hx hb d_E_mixed_32 rfl hl (by decide) rfl (fun ls hl => ?_)
  refine lv_lload_n hx hb d_E_mixed_33 rfl (lv_at hl 0 rfl) ?_
  refine lv_lload_n hx hb d_E_mixed_34 rfl (lv_at hl 0 rfl) ?_
  refine lv_bipush (v := 27) hx hb d_E_mixed_35 (by decide) ?_
  refine lv_lushr hx hb d_E_mixed_37 rfl ?_
  refine lv_topl (fun x_12 ex_12 => ?_)
  refine lv_lxor hx hb d_E_mixed_38 ?_
  refine lv_topl (fun x_13 ex_13 => ?_)
  refine lv_ldc2 (v := (-7723592293110705685)) hx hb hown (hT _ k_472) d_E_mixed_39 ?_
  refine lv_lmul hx hb d_E_mixed_42 ?_
  refine lv_topl (fun x_14 ex_14 => ?_)
  refine lv_lstore_n (lv' := [(3, .long x_14), (0, .ref (ad 0)), (1, .int p0), (2, .int p1)]) hx hb d_E_mixed_43 rfl hl (by decide) rfl (fun ls hl => ?_)
  refine lv_lload_n hx hb d_E_mixed_44 rfl (lv_at hl 0 rfl) ?_
  refine lv_lload_n hx hb d_E_mixed_45 rfl (lv_at hl 0 rfl) ?_
  refine lv_bipush (v := 31) hx hb d_E_mixed_46 (by decide) ?_
  refine lv_lushr hx hb d_E_mixed_48 rfl ?_
  refine lv_topl (fun x_15 ex_15 => ?_)
  refine lv_lxor hx hb d_E_mixed_49 ?_
  refine lv_topl (fun x_16 ex_16 => ?_)
  exact m_lret (v := x_16) hx hb hr hm (⟨by
    simp only [ex_16, ex_15, ex_14, ex_13, ex_12, ex_11, ex_10, ex_9, ex_8, ex_7, ex_6, ex_5, ex_4, ex_3, ex_2, ex_1]
    rfl, rfl⟩) d_E_mixed_50 hlocks

set_option maxHeartbeats 4000000 in
set_option maxRecDepth 100000 in
theorem c_E_breaks (l : Launch) (hlt : l.stackTraces = false) (D : va_G) (dA : Nat → ClassId) (ad : Nat → Nat) (G : mG) (sz : Nat) (I : Nat → Nat → Int32) (J : Nat → Nat → Int64) (F : Nat → Nat → Nat → Int32) (si : Nat → Nat) (tc oc : Nat) (G0 : mG) (hG : G = gE dA ad I J F si tc oc G0) (ht : tc ≤ 12) (hL : ∀ i, i < 4 → ∃ c, c ≤ 40 ∧ I 2 i = nI c) (p0 p1 : Int32) : vx_Met l y_E_breaks (.code y_E_breaks b_E_breaks 5 (some .int) :: mBig) ({ frames := 7, cells := 2, slots := 12, locals := 104 }) (mPc [.ref (ad 0), .int p0, .int p1] D mCl (mTys dA) mTx ad G sz) (mQi (fun (rv : Int32) (u : mU) => (∃ i kc, i < 4 ∧ p0 = nI i ∧ kc ≤ 40 ∧ I 2 i = nI kc ∧ 1 ≤ kc ∧ ¬ p1 < 0 ∧ rv = F 0 i (eIx (eMix (I 0 0).toInt64 p0 p1) kc)) ∧ u = (ad, G)) D mCl ad G sz) (mXC (fun (E : String) (u : mU) => ((E = "java/lang/IndexOutOfBoundsException" ∧ ¬ ∃ i, i < 4 ∧ p0 = nI i) ∨ (E = "java/lang/IllegalArgumentException" ∧ (∃ i, i < 4 ∧ p0 = nI i) ∧ p1 < 0) ∨ (E = "java/lang/IllegalStateException" ∧ (∃ i, i < 4 ∧ p0 = nI i ∧ I 2 i = 0) ∧ ¬ p1 < 0)) ∧ u = (ad, G)) D mCl ad G sz) 2 12 (mA ad G sz) := by
  refine vx_ofW (cc := b_E_breaks) (maxL := 5) (ret := (some .int)) (by decide) rfl ?_
  intro p e s m args below meth c s₁ B hml hout hv
  obtain ⟨rfl, hsz, hw0, hC⟩ := hv
  have hx := B.exec
  have hb := B.bytes
  have hr := B.returns
  have hts := atoms_spec (ws := .code y_E_breaks b_E_breaks 5 (some .int) :: mBig) B.pre
  have hT : ∀ w ∈ mBig, w.before _ s = true := fun w h => hts w (List.mem_cons_of_mem _ h)
  have hown : s.vm.findClass "EdgeWear" = some m.cls := findClass_of_methodNamed B.named
  have hlocks := B.notSynchronized
  subst hsz
  have hm := mS.start hw0
  have hA : ∀ q : Nat, s.heap.size ≤ q → mA ad G s.heap.size q := fun q h => Or.inr h
  have hl := lv_entry ([.ref (ad 0), .int p0, .int p1]) (n := 5) (Nat.le_of_ble_eq_true rfl)
  rw [lg_entry_eq]
  generalize (lg_sl ([.ref (ad 0), .int p0, .int p1]) ++ List.replicate (5 - (lg_sl ([.ref (ad 0), .int p0, .int p1])).length) Slot.unset).toArray = ls at hl ⊢
  have hl : lv_has ls 5 [(0, .ref (ad 0)), (1, .int p0), (2, .int p1)] := hl
  refine lv_aload_n hx hb d_E_breaks_0 rfl (lv_at hl 0 rfl) ?_
  refine lv_iload_n hx hb d_E_breaks_1 rfl (lv_at hl 1 rfl) ?_
  refine x_roq (x_runV (As := [.int p0]) (rest := []) ⟨hx, hb, hml, hown, hts⟩ (c_E_sortAt l hlt D dA ad G s.heap.size I J F si tc oc G0 hG ht p0) (cwV 1 hts (gV k_132 k_129 k_131 ks_0 k_1) rfl rfl rfl (by decide +kernel) ⟨Nat.le_of_ble_eq_true rfl, Nat.le_of_ble_eq_true rfl⟩) hm hA hC 0 rfl ((congrFun hG 0).trans gE_c0) rfl rfl rfl hl.1 rfl (Nat.le_of_ble_eq_true rfl) d_E_breaks_2 ⟨Nat.le_of_ble_eq_true rfl, Nat.le_of_ble_eq_true rfl⟩) hm hA (fun E ce q9 H locs w_2 hm h7 h8 h9 => ?_) (fun r_1 H locs w_2 hm => ?_)
  · exact m_out hout hlocks hm h7 h8 h9 (by
      obtain ⟨rfl, hq⟩ := w_2
      exact ⟨Or.inl ⟨rfl, hq⟩, rfl⟩) (by decide) (by decide)
  · obtain ⟨i, hi, epi, er⟩ := w_2
    subst er
    rw [show va_rf (some (ad (10 + i))) = .ref (ad (10 + i)) from rfl]
    refine lv_astore_n (lv' := [(3, .ref (ad (10 + i))), (0, .ref (ad 0)), (1, .int p0), (2, .int p1)]) hx hb d_E_breaks_5 rfl hl (by decide) rfl (fun ls hl => ?_)
    obtain ⟨kc, hkc, ekc⟩ := hL i hi
    refine lv_iload_n hx hb d_E_breaks_6 rfl (lv_at hl 3 rfl) ?_
    refine lv_if_ge (tgt := 20) hx hb d_E_breaks_7 (by decide) (fun c_7 => ?_) (fun c_7 => ?_)
    · refine lv_aload_n hx hb d_E_breaks_20 rfl (lv_at hl 0 rfl) ?_
      refine m_get (v := .int (I 2 i)) (C := R_So) (T := T_So) (N := 6) hx hb hT in_So hown hC.1 hm (10 + i) rfl ((congrFun hG (10 + i)).trans (gE_so hi)) rfl 2 (by decide) (hT _ k_38) (fun _ h9 => h9) rfl d_E_breaks_21 ?_
      refine lv_if_ne (tgt := 37) hx hb d_E_breaks_24 (by decide) (fun c_24 => ?_) (fun c_24 => ?_)
      · have hk0 : ¬ kc = 0 := fun q => c_24 (by rw [ekc, q]; rfl)
        have hk1 : 1 ≤ kc := Nat.pos_of_ne_zero hk0
        refine lv_aload_n hx hb d_E_breaks_37 rfl (lv_at hl 1 rfl) ?_
        refine lv_iload_n hx hb d_E_breaks_38 rfl (lv_at hl 2 rfl) ?_
        refine lv_iload_n hx hb d_E_breaks_39 rfl (lv_at hl 3 rfl) ?_
        refine m_rol (m_runV (As := [.int p0, .int p1]) (rest := []) ⟨hx, hb, hml, hown, hts⟩ (c_E_mixed l D dA ad G H.size I J F si tc oc G0 hG ht p0 p1) (cwV 2 hts (gV k_468 k_465 k_467 ks_4 k_1) rfl rfl rfl (by decide +kernel) ⟨Nat.le_of_ble_eq_true rfl, Nat.le_of_ble_eq_true rfl⟩) hm hA hC 0 rfl ((congrFun hG 0).trans gE_c0) rfl rfl rfl hl.1 rfl (Nat.le_of_ble_eq_true rfl) d_E_breaks_40 ⟨Nat.le_of_ble_eq_true rfl, Nat.le_of_ble_eq_true rfl⟩) hm hA (fun r_3 H locs w_4 hm => ?_)
        refine lv_iconst (v := 1) hx hb d_E_breaks_43 (by decide) ?_
        refine lv_lushr hx hb d_E_breaks_44 rfl ?_
        refine lv_topl (fun x_5 ex_5 => ?_)
        refine lv_aload_n hx hb d_E_breaks_45 rfl (lv_at hl 0 rfl) ?_
        refine m_get (v := .int (I 2 i)) (C := R_So) (T := T_So) (N := 6) hx hb hT in_So hown hC.1 hm (10 + i) rfl ((congrFun hG (10 + i)).trans (gE_so hi)) rfl 2 (by decide) (hT _ k_38) (fun _ h9 => h9) rfl d_E_breaks_46 ?_
        refine lv_i2l hx hb d_E_breaks_49 rfl ?_
        refine lv_topl (fun x_6 ex_6 => ?_)
        refine lv_lrem hx hb d_E_breaks_50 (by rw [ex_6, ekc, nI_l (by omega)]; exact fun q => hk0 ((pk_lEQ (b := 0) (by omega) (by decide)).mp q)) ?_
        refine lv_topl (fun x_7 ex_7 => ?_)
        refine lv_l2i hx hb d_E_breaks_51 rfl ?_
        refine lv_topi (fun x_8 ex_8 => ?_)
        have hix : x_8 = nI (eIx (eMix (I 0 0).toInt64 p0 p1) kc) := by
          rw [ex_8, ex_7, ex_6, ex_5, w_4, ekc]
          exact eIx_spec _ hk1 hkc
        refine lv_istore (lv' := [(4, .int x_8), (3, .ref (ad (10 + i))), (0, .ref (ad 0)), (1, .int p0), (2, .int p1)]) hx hb d_E_breaks_52 hl (by decide) rfl (fun ls hl => ?_)
        refine lv_aload_n hx hb d_E_breaks_54 rfl (lv_at hl 1 rfl) ?_
        refine m_get (v := .ref (ad (20 + i))) (C := R_So) (T := T_So) (N := 6) hx hb hT in_So hown hC.1 hm (10 + i) rfl ((congrFun hG (10 + i)).trans (gE_so hi)) rfl 1 (by decide) (hT _ k_36) (fun _ h9 => h9) rfl d_E_breaks_55 ?_
        refine lv_iload hx hb d_E_breaks_58 (lv_at hl 0 rfl) ?_
        refine m_iald (v := F 0 i (eIx (eMix (I 0 0).toInt64 p0 p1) kc)) hx hb hC.1 hm (20 + i) rfl 0 ((congrFun hG (20 + i)).trans (gE_li hi)) rfl (by rw [hix]; exact vp_in_nI (Nat.lt_of_lt_of_le (eIx_lt _ hk1) hkc) (by decide)) (by rw [hix, nI_clamp (Nat.lt_of_lt_of_le (eIx_lt _ hk1) (by omega))]) d_E_breaks_60 ?_
        refine W.widen (k := 2) (n := 12) (by omega) (by omega) ?_
        refine vx_ret ?_
        exact m_iret (v := F 0 i (eIx (eMix (I 0 0).toInt64 p0 p1) kc)) hx hb hr hm (⟨⟨i, kc, hi, epi, hkc, ekc, hk1, Int32.not_lt.mpr c_7, rfl⟩, rfl⟩) d_E_breaks_61 hlocks
      · exact m_throwS (cls := "java/lang/IllegalStateException") (text := "no lives") (names := ["java/lang/RuntimeException", "java/lang/Exception"]) (tx := mTx) hx hb hlt hown (by decide +kernel) (by decide +kernel) (hT _ k_218) (hT _ k_10) (by decide +kernel) hC (at_IllegalStateException hT hC.2.2.2) (good_IllegalStateException) hm (hl.1.trans hml.symm) d_E_breaks_27 d_E_breaks_30 d_E_breaks_31 d_E_breaks_33 d_E_breaks_36 hout (Nat.le_of_ble_eq_true rfl) (Nat.le_of_ble_eq_true rfl) (Nat.le_of_ble_eq_true rfl) (Nat.le_of_ble_eq_true rfl) hlocks (⟨Or.inr (Or.inr ⟨rfl, ⟨i, hi, epi, c_24⟩, Int32.not_lt.mpr c_7⟩), rfl⟩) (Nat.le_of_ble_eq_true rfl) (Nat.le_of_ble_eq_true rfl)
    · exact m_throwS (cls := "java/lang/IllegalArgumentException") (text := "k is below 0") (names := ["java/lang/RuntimeException", "java/lang/Exception"]) (tx := mTx) hx hb hlt hown (by decide +kernel) (by decide +kernel) (hT _ k_202) (hT _ k_9) (by decide +kernel) hC (at_IllegalArgumentException hT hC.2.2.2) (good_IllegalArgumentException) hm (hl.1.trans hml.symm) d_E_breaks_10 d_E_breaks_13 d_E_breaks_14 d_E_breaks_16 d_E_breaks_19 hout (Nat.le_of_ble_eq_true rfl) (Nat.le_of_ble_eq_true rfl) (Nat.le_of_ble_eq_true rfl) (Nat.le_of_ble_eq_true rfl) hlocks (⟨Or.inr (Or.inl ⟨rfl, ⟨i, hi, epi⟩, Int32.not_le.mp c_7⟩), rfl⟩) (Nat.le_of_ble_eq_true rfl) (Nat.le_of_ble_eq_true rfl)

set_option maxHeartbeats 4000000 in
set_option maxRecDepth 100000 in
theorem c_E_power (l : Launch) (hlt : l.stackTraces = false) (D : va_G) (dA : Nat → ClassId) (ad : Nat → Nat) (G : mG) (sz : Nat) (I : Nat → Nat → Int32) (J : Nat → Nat → Int64) (F : Nat → Nat → Nat → Int32) (si : Nat → Nat) (tc oc : Nat) (G0 : mG) (hG : G = gE dA ad I J F si tc oc G0) (ht : tc ≤ 12) (hR : ∃ k, 2 ≤ k ∧ k ≤ 12 ∧ I 0 2 = nI k) (p0 p1 p2 : Int32) : vx_Met l y_E_power (.code y_E_power b_E_power 5 (some .int) :: mBig) ({ frames := 7, cells := 2, slots := 12, locals := 104 }) (mPc [.ref (ad 0), .int p0, .int p1, .int p2] D mCl (mTys dA) mTx ad G sz) (mQi (fun (rv : Int32) (u : mU) => (∃ i k, i < tc ∧ p0 = nI i ∧ ¬ (p2 < 0 ∨ 1000000 < p2 ∨ p1 ≤ I 10 i) ∧ 2 ≤ k ∧ k ≤ 12 ∧ I 0 2 = nI k ∧ eFire rv (I 0 1 < (upd (va_cpy (F 1 i) (F 1 i) 0 1 23) 0 p2) 0) (nI k ≤ (if 24 < I 9 i + 1 then 24 else I 9 i + 1) ∧ ∀ i_1, i_1 + 1 < k → (upd (va_cpy (F 1 i) (F 1 i) 0 1 23) 0 p2) (i_1 + 1) < (upd (va_cpy (F 1 i) (F 1 i) 0 1 23) 0 p2) i_1) (nI k ≤ (if 24 < I 9 i + 1 then 24 else I 9 i + 1) ∧ ∀ i_1, i_1 < k → I 0 3 < (upd (va_cpy (F 1 i) (F 1 i) 0 1 23) 0 p2) i_1) (3 ≤ (if 24 < I 9 i + 1 then 24 else I 9 i + 1) ∧ I 0 4 < (if 0 ≤ (upd (va_cpy (F 1 i) (F 1 i) 0 1 23) 0 p2) 0 - (upd (va_cpy (F 1 i) (F 1 i) 0 1 23) 0 p2) 1 then (upd (va_cpy (F 1 i) (F 1 i) 0 1 23) 0 p2) 0 - (upd (va_cpy (F 1 i) (F 1 i) 0 1 23) 0 p2) 1 else 0 - ((upd (va_cpy (F 1 i) (F 1 i) 0 1 23) 0 p2) 0 - (upd (va_cpy (F 1 i) (F 1 i) 0 1 23) 0 p2) 1)) + (if 0 ≤ (upd (va_cpy (F 1 i) (F 1 i) 0 1 23) 0 p2) 1 - (upd (va_cpy (F 1 i) (F 1 i) 0 1 23) 0 p2) 2 then (upd (va_cpy (F 1 i) (F 1 i) 0 1 23) 0 p2) 1 - (upd (va_cpy (F 1 i) (F 1 i) 0 1 23) 0 p2) 2 else 0 - ((upd (va_cpy (F 1 i) (F 1 i) 0 1 23) 0 p2) 1 - (upd (va_cpy (F 1 i) (F 1 i) 0 1 23) 0 p2) 2))) ∧ u = (ad, gE dA ad (up2 (up2 I 9 i (if 24 < I 9 i + 1 then 24 else I 9 i + 1)) 10 i p1) J (up2 F 1 i (upd (va_cpy (F 1 i) (F 1 i) 0 1 23) 0 p2)) si tc oc G0))) D mCl ad G sz) (mXC (fun (E : String) (u : mU) => ((E = "java/lang/IndexOutOfBoundsException" ∧ ¬ (∃ i, i < tc ∧ p0 = nI i)) ∨ (E = "java/lang/IllegalArgumentException" ∧ ∃ i, i < tc ∧ p0 = nI i ∧ (p2 < 0 ∨ 1000000 < p2 ∨ p1 ≤ I 10 i))) ∧ u = (ad, G)) D mCl ad G sz) 2 12 (mA ad G sz) := by
  refine vx_ofW (cc := b_E_power) (maxL := 5) (ret := (some .int)) (by decide) rfl ?_
  intro p e s m args below meth c s₁ B hml hout hv
  obtain ⟨rfl, hsz, hw0, hC⟩ := hv
  have hx := B.exec
  have hb := B.bytes
  have hr := B.returns
  have hts := atoms_spec (ws := .code y_E_power b_E_power 5 (some .int) :: mBig) B.pre
  have hT : ∀ w ∈ mBig, w.before _ s = true := fun w h => hts w (List.mem_cons_of_mem _ h)
  have hown : s.vm.findClass "EdgeWear" = some m.cls := findClass_of_methodNamed B.named
  have hlocks := B.notSynchronized
  subst hsz
  have hm := mS.start hw0
  have hA : ∀ q : Nat, s.heap.size ≤ q → mA ad G s.heap.size q := fun q h => Or.inr h
  have hl := lv_entry ([.ref (ad 0), .int p0, .int p1, .int p2]) (n := 5) (Nat.le_of_ble_eq_true rfl)
  rw [lg_entry_eq]
  generalize (lg_sl ([.ref (ad 0), .int p0, .int p1, .int p2]) ++ List.replicate (5 - (lg_sl ([.ref (ad 0), .int p0, .int p1, .int p2])).length) Slot.unset).toArray = ls at hl ⊢
  have hl : lv_has ls 5 [(0, .ref (ad 0)), (1, .int p0), (2, .int p1), (3, .int p2)] := hl
  refine lv_aload_n hx hb d_E_power_0 rfl (lv_at hl 0 rfl) ?_
  refine lv_iload_n hx hb d_E_power_1 rfl (lv_at hl 1 rfl) ?_
  refine x_roq (x_runV (As := [.int p0]) (rest := []) ⟨hx, hb, hml, hown, hts⟩ (c_E_toolAt l hlt D dA ad G s.heap.size I J F si tc oc G0 hG ht p0) (cwV 1 hts (gV k_323 k_320 k_322 ks_2 k_1) rfl rfl rfl (by decide +kernel) ⟨Nat.le_of_ble_eq_true rfl, Nat.le_of_ble_eq_true rfl⟩) hm hA hC 0 rfl ((congrFun hG 0).trans gE_c0) rfl rfl rfl hl.1 rfl (Nat.le_of_ble_eq_true rfl) d_E_power_2 ⟨Nat.le_of_ble_eq_true rfl, Nat.le_of_ble_eq_true rfl⟩) hm hA (fun E ce q9 H locs w_2 hm h7 h8 h9 => ?_) (fun r_1 H locs w_2 hm => ?_)
  · exact m_out hout hlocks hm h7 h8 h9 (by
      obtain ⟨rfl, hq⟩ := w_2
      exact ⟨Or.inl ⟨rfl, hq⟩, rfl⟩) (by decide) (by decide)
  · obtain ⟨i, hi, epi, er⟩ := w_2
    subst er
    rw [show va_rf (some (ad (100 + i))) = .ref (ad (100 + i)) from rfl]
    obtain ⟨k, hk2, hk12, ek⟩ := hR
    refine m_get (v := .ref (ad (200 + i))) (C := R_To) (T := T_To) (N := 9) hx hb hT in_To hown hC.1 hm (100 + i) rfl ((congrFun hG (100 + i)).trans (gE_to hi ht)) rfl 2 (by decide) (hT _ k_260) (fun _ h9 => h9) rfl d_E_power_5 ?_
    refine lv_astore (lv' := [(4, .ref (ad (200 + i))), (0, .ref (ad 0)), (1, .int p0), (2, .int p1), (3, .int p2)]) hx hb d_E_power_8 hl (by decide) rfl (fun ls hl => ?_)
    refine lv_iload_n hx hb d_E_power_10 rfl (lv_at hl 4 rfl) ?_
    refine lv_if_lt (tgt := 20) hx hb d_E_power_11 (by decide) (fun c_11 => ?_) (fun c_11 => ?_)
    · exact m_throwS (cls := "java/lang/IllegalArgumentException") (text := "reading is not 0 .. 1000000") (names := ["java/lang/RuntimeException", "java/lang/Exception"]) (tx := mTx) hx hb hlt hown (by decide +kernel) (by decide +kernel) (hT _ k_202) (hT _ k_9) (by decide +kernel) hC (at_IllegalArgumentException hT hC.2.2.2) (good_IllegalArgumentException) hm (hl.1.trans hml.symm) d_E_power_20 d_E_power_23 d_E_power_24 d_E_power_26 d_E_power_29 hout (Nat.le_of_ble_eq_true rfl) (Nat.le_of_ble_eq_true rfl) (Nat.le_of_ble_eq_true rfl) (Nat.le_of_ble_eq_true rfl) hlocks (⟨Or.inr ⟨rfl, i, hi, epi, Or.inl c_11⟩, rfl⟩) (Nat.le_of_ble_eq_true rfl) (Nat.le_of_ble_eq_true rfl)
    · refine lv_iload_n hx hb d_E_power_14 rfl (lv_at hl 4 rfl) ?_
      refine lv_ldc (v := 1000000) hx hb hown (hT _ k_201) d_E_power_15 ?_
      refine lv_icmp_le (tgt := 30) hx hb d_E_power_17 (by decide) (fun c_17 => ?_) (fun c_17 => ?_)
      · refine lv_iload_n hx hb d_E_power_30 rfl (lv_at hl 3 rfl) ?_
        refine lv_aload hx hb d_E_power_31 (lv_at hl 0 rfl) ?_
        refine m_get (v := .int (I 10 i)) (C := R_Rd) (T := T_Rd) (N := 3) hx hb hT in_Rd hown hC.1 hm (200 + i) rfl ((congrFun hG (200 + i)).trans (gE_rd hi ht)) rfl 2 (by decide) (hT _ k_248) (fun _ h9 => h9) rfl d_E_power_33 ?_
        refine lv_icmp_gt (tgt := 49) hx hb d_E_power_36 (by decide) (fun c_36 => ?_) (fun c_36 => ?_)
        · refine lv_aload hx hb d_E_power_49 (lv_at hl 0 rfl) ?_
          refine lv_iload_n hx hb d_E_power_51 rfl (lv_at hl 3 rfl) ?_
          refine lv_iload_n hx hb d_E_power_52 rfl (lv_at hl 4 rfl) ?_
          refine m_callv (m_runV (As := [.int p1, .int p2]) (rest := []) ⟨hx, hb, hml, hown, hts⟩ (c_Rd_add l D dA ad G H.size (200 + i) (300 + i) (I 9 i) (I 10 i) (F 1 i) p1 p2 (by omega) ((congrFun hG (200 + i)).trans (gE_rd hi ht)) ((congrFun hG (300 + i)).trans (gE_la hi ht))) (cwV 2 hts (gV k_494 k_491 k_492 k_493 k_12) rfl rfl rfl (by decide +kernel) ⟨Nat.le_of_ble_eq_true rfl, Nat.le_of_ble_eq_true rfl⟩) hm hA hC (200 + i) rfl ((congrFun hG (200 + i)).trans (gE_rd hi ht)) rfl rfl rfl hl.1 rfl (Nat.le_of_ble_eq_true rfl) d_E_power_53 ⟨Nat.le_of_ble_eq_true rfl, Nat.le_of_ble_eq_true rfl⟩) hm hA (fun ad_6 G_5 H locs w_4 hm => ?_)
          obtain ⟨ea9, eG_5⟩ := Prod.mk.inj w_4
          rw [ea9] at hm
          have g_7 := (congrFun eG_5 0).trans ((va_up_ne _ _ (by omega)).trans ((va_up_ne _ _ (by omega)).trans ((congrFun hG 0).trans gE_c0)))
          have g_8 := (congrFun eG_5 1).trans ((va_up_ne _ _ (by omega)).trans ((va_up_ne _ _ (by omega)).trans ((congrFun hG 1).trans gE_c1)))
          have g_9 := (congrFun eG_5 2).trans ((va_up_ne _ _ (by omega)).trans ((va_up_ne _ _ (by omega)).trans ((congrFun hG 2).trans gE_c2)))
          have g_10 := (congrFun eG_5 3).trans ((va_up_ne _ _ (by omega)).trans ((va_up_ne _ _ (by omega)).trans ((congrFun hG 3).trans gE_c3)))
          have g_11 := (congrFun eG_5 4).trans ((va_up_ne _ _ (by omega)).trans ((va_up_ne _ _ (by omega)).trans ((congrFun hG 4).trans gE_c4)))
          have g_12 := (congrFun eG_5 5).trans ((va_up_ne _ _ (by omega)).trans ((va_up_ne _ _ (by omega)).trans ((congrFun hG 5).trans gE_c5)))
          have g_13 := (congrFun eG_5 (100 + i)).trans ((va_up_ne _ _ (by omega)).trans ((va_up_ne _ _ (by omega)).trans ((congrFun hG (100 + i)).trans (gE_to hi ht))))
          have g_14 : G_5 (200 + i) = some (.inr (1, [.ref (ad (300 + i)), .int (if 24 < I 9 i + 1 then 24 else I 9 i + 1), .int p1])) := by rw [eG_5, va_up_self]
          have g_15 : G_5 (300 + i) = some (.inl (dA 0, 24, .inl (upd (va_cpy (F 1 i) (F 1 i) 0 1 23) 0 p2))) := by rw [eG_5, va_up_ne _ _ (by omega), va_up_self]
          refine lv_aload_n hx hb d_E_power_56 rfl (lv_at hl 1 rfl) ?_
          refine m_get (v := .ref (ad 5)) (C := R_E) (T := T_E) (N := 8) hx hb hT in_E hown hC.1 hm 0 rfl g_7 rfl 5 (by decide) (hT _ k_92) (fun _ h9 => h9) rfl d_E_power_57 ?_
          refine lv_aload hx hb d_E_power_60 (lv_at hl 0 rfl) ?_
          refine m_roi (m_runV (As := [.ref (ad (200 + i))]) (rest := []) ⟨hx, hb, hml, hown, hts⟩ (c_Ru_firstThatTells l D dA ad G_5 H.size 5 (I 0 1) (I 0 2) (I 0 3) (I 0 4) (200 + i) (300 + i) (if 24 < I 9 i + 1 then 24 else I 9 i + 1) p1 (upd (va_cpy (F 1 i) (F 1 i) 0 1 23) 0 p2) k ek (by omega) (by omega) (g_12) (g_14) (g_15)) (cwV 1 hts (gV k_502 k_499 k_500 k_501 k_3) rfl rfl rfl (by decide +kernel) ⟨Nat.le_of_ble_eq_true rfl, Nat.le_of_ble_eq_true rfl⟩) hm hA hC 5 rfl g_12 rfl rfl rfl hl.1 rfl (Nat.le_of_ble_eq_true rfl) d_E_power_62 ⟨Nat.le_of_ble_eq_true rfl, Nat.le_of_ble_eq_true rfl⟩) hm hA (fun r_16 H locs w_17 hm => ?_)
          refine W.widen (k := 2) (n := 12) (by omega) (by omega) ?_
          refine vx_ret ?_
          exact m_iret (v := r_16) hx hb hr hm (⟨i, k, hi, epi, fun h => h.elim c_11 (fun h => h.elim (fun h => Int32.not_lt.mpr c_17 h) (fun h => Int32.not_lt.mpr h c_36)), hk2, hk12, ek, w_17, by rw [eG_5, hG, gE_ulate hi ht, gE_uread hi ht]⟩) d_E_power_65 hlocks
        · exact m_throwS (cls := "java/lang/IllegalArgumentException") (text := "minute is not above the one before") (names := ["java/lang/RuntimeException", "java/lang/Exception"]) (tx := mTx) hx hb hlt hown (by decide +kernel) (by decide +kernel) (hT _ k_202) (hT _ k_9) (by decide +kernel) hC (at_IllegalArgumentException hT hC.2.2.2) (good_IllegalArgumentException) hm (hl.1.trans hml.symm) d_E_power_39 d_E_power_42 d_E_power_43 d_E_power_45 d_E_power_48 hout (Nat.le_of_ble_eq_true rfl) (Nat.le_of_ble_eq_true rfl) (Nat.le_of_ble_eq_true rfl) (Nat.le_of_ble_eq_true rfl) hlocks (⟨Or.inr ⟨rfl, i, hi, epi, Or.inr (Or.inr (Int32.not_lt.mp c_36))⟩, rfl⟩) (Nat.le_of_ble_eq_true rfl) (Nat.le_of_ble_eq_true rfl)
      · exact m_throwS (cls := "java/lang/IllegalArgumentException") (text := "reading is not 0 .. 1000000") (names := ["java/lang/RuntimeException", "java/lang/Exception"]) (tx := mTx) hx hb hlt hown (by decide +kernel) (by decide +kernel) (hT _ k_202) (hT _ k_9) (by decide +kernel) hC (at_IllegalArgumentException hT hC.2.2.2) (good_IllegalArgumentException) hm (hl.1.trans hml.symm) d_E_power_20 d_E_power_23 d_E_power_24 d_E_power_26 d_E_power_29 hout (Nat.le_of_ble_eq_true rfl) (Nat.le_of_ble_eq_true rfl) (Nat.le_of_ble_eq_true rfl) (Nat.le_of_ble_eq_true rfl) hlocks (⟨Or.inr ⟨rfl, i, hi, epi, Or.inr (Or.inl (Int32.not_le.mp c_17))⟩, rfl⟩) (Nat.le_of_ble_eq_true rfl) (Nat.le_of_ble_eq_true rfl)

set_option maxHeartbeats 4000000 in
set_option maxRecDepth 100000 in
theorem c_E_wholeThickness (l : Launch) (D : va_G) (dA : Nat → ClassId) (ad : Nat → Nat) (G : mG) (sz : Nat) (I : Nat → Nat → Int32) (J : Nat → Nat → Int64) (F : Nat → Nat → Nat → Int32) (si : Nat → Nat) (tc oc : Nat) (G0 : mG) (hG : G = gE dA ad I J F si tc oc G0) (ht : tc ≤ 12) (p0 : Int64) (p1 : Int32) : Met l y_E_wholeThickness (.code y_E_wholeThickness b_E_wholeThickness 7 (some .int) :: mBig) ({ frames := 0, cells := 0, slots := 0, locals := 0 }) (mPc [.long p0, .int p1] D mCl (mTys dA) mTx ad G sz) (mQi (fun (rv : Int32) (u : mU) => (rv = eTh p0 p1 20 0) ∧ u = (ad, G)) D mCl ad G sz) 0 0 (mA ad G sz) := by
  refine Met.ofW (cc := b_E_wholeThickness) (maxL := 7) (ret := (some .int)) (by decide) rfl ?_
  intro p e s m args below meth c s₁ B hml hv
  obtain ⟨rfl, hsz, hw0, hC⟩ := hv
  have hx := B.exec
  have hb := B.bytes
  have hr := B.returns
  have hts := atoms_spec (ws := .code y_E_wholeThickness b_E_wholeThickness 7 (some .int) :: mBig) B.pre
  have hT : ∀ w ∈ mBig, w.before _ s = true := fun w h => hts w (List.mem_cons_of_mem _ h)
  have hown : s.vm.findClass "EdgeWear" = some m.cls := findClass_of_methodNamed B.named
  have hlocks := B.notSynchronized
  subst hsz
  have hm := mS.start hw0
  have hA : ∀ q : Nat, s.heap.size ≤ q → mA ad G s.heap.size q := fun q h => Or.inr h
  have hl := lv_entry ([.long p0, .int p1]) (n := 7) (Nat.le_of_ble_eq_true rfl)
  rw [lg_entry_eq]
  generalize (lg_sl ([.long p0, .int p1]) ++ List.replicate (7 - (lg_sl ([.long p0, .int p1])).length) Slot.unset).toArray = ls at hl ⊢
  have hl : lv_has ls 7 [(0, .long p0), (2, .int p1)] := hl
  refine lv_iconst (v := 0) hx hb d_E_wholeThickness_0 (by decide) ?_
  refine lv_istore_n (lv' := [(3, .int 0), (0, .long p0), (2, .int p1)]) hx hb d_E_wholeThickness_1 rfl hl (by decide) rfl (fun ls hl => ?_)
  refine lv_ldcw (v := 524288) hx hb hown (hT _ k_582) d_E_wholeThickness_2 ?_
  refine lv_istore (lv' := [(4, .int 524288), (3, .int 0), (0, .long p0), (2, .int p1)]) hx hb d_E_wholeThickness_5 hl (by decide) rfl (fun ls hl => ?_)
  refine m_loopH (nL := 7) (head := 7) (fun (q9 : Nat) => fun (x : Nat × Int32) => match x with | (n, x) => q9 = n + 1 ∧ n ≤ 20 ∧ eTh p0 p1 n x = eTh p0 p1 20 0) (fun (x : Nat × Int32) => match x with | (n, x) => [(0, .long p0), (2, .int p1), (3, .int x), (4, .int (nI (2 ^ n / 2)))]) (fun _ => G) (fun ⟨n, x⟩ h => by have h1 := h.1; have h2 := h.2.1; omega) (fun q9 x ls H locs hI hl hm ih7 => ?_) (20) (20, 0) (⟨rfl, by decide, rfl⟩) (lv_sub hl [2, 3, 1, 0] rfl) hm
  obtain ⟨n, x⟩ := x
  replace hI : (fun (q9 : Nat) => q9 = n + 1 ∧ n ≤ 20 ∧ eTh p0 p1 n x = eTh p0 p1 20 0) (q9 + 1) := hI
  have hl : lv_has ls 7 [(0, .long p0), (2, .int p1), (3, .int x), (4, .int (nI (2 ^ n / 2)))] := hl
  refine lv_iload hx hb d_E_wholeThickness_7 (lv_at hl 3 rfl) ?_
  refine lv_if_le (tgt := 46) hx hb d_E_wholeThickness_9 (by decide) (fun c_9 => ?_) (fun c_9 => ?_)
  · have hn0 : n = 0 := by
      cases n with
      | zero => rfl
      | succ k =>
        have hkp : 2 ^ k < 2 ^ 20 := Nat.pow_lt_pow_right (by decide) (by omega)
        have hk0 : 0 < 2 ^ k := Nat.pow_pos (by decide)
        have e2 : 2 ^ (k + 1) / 2 = 2 ^ k := by rw [Nat.pow_succ]; omega
        rw [e2] at c_9
        exact absurd c_9 (nI_nle hk0 (by omega))
    refine lv_iload_n hx hb d_E_wholeThickness_46 rfl (lv_at hl 2 rfl) ?_
    exact m_iret (v := x) hx hb hr hm (⟨by
      rw [← hI.2.2, hn0]
      rfl, rfl⟩) d_E_wholeThickness_47 hlocks
  · obtain ⟨k, rfl⟩ : ∃ k, n = k + 1 := by
      cases n with
      | zero => exact absurd (show nI (2 ^ 0 / 2) ≤ 0 from Int32.le_refl _) c_9
      | succ k => exact ⟨k, rfl⟩
    have e2 : 2 ^ (k + 1) / 2 = 2 ^ k := by rw [Nat.pow_succ]; omega
    have hkp : 2 ^ k < 2 ^ 20 := Nat.pow_lt_pow_right (by decide) (by omega)
    refine lv_iload_n hx hb d_E_wholeThickness_12 rfl (lv_at hl 2 rfl) ?_
    refine lv_iload hx hb d_E_wholeThickness_13 (lv_at hl 3 rfl) ?_
    refine lv_iadd hx hb d_E_wholeThickness_15 ?_
    refine lv_topi (fun x_1 ex_1 => ?_)
    refine lv_i2l hx hb d_E_wholeThickness_16 rfl ?_
    refine lv_topl (fun x_2 ex_2 => ?_)
    refine lv_iload_n hx hb d_E_wholeThickness_17 rfl (lv_at hl 1 rfl) ?_
    refine lv_i2l hx hb d_E_wholeThickness_18 rfl ?_
    refine lv_topl (fun x_3 ex_3 => ?_)
    refine lv_lmul hx hb d_E_wholeThickness_19 ?_
    refine lv_topl (fun x_4 ex_4 => ?_)
    refine lv_lstore (lv' := [(5, .long x_4), (0, .long p0), (2, .int p1), (3, .int x), (4, .int (nI (2 ^ (k + 1) / 2)))]) hx hb d_E_wholeThickness_20 hl (by decide) rfl (fun ls hl => ?_)
    refine lv_lload hx hb d_E_wholeThickness_22 (lv_at hl 0 rfl) ?_
    refine lv_lload hx hb d_E_wholeThickness_24 (lv_at hl 0 rfl) ?_
    refine lv_lmul hx hb d_E_wholeThickness_26 ?_
    refine lv_topl (fun x_5 ex_5 => ?_)
    refine lv_lload_n hx hb d_E_wholeThickness_27 rfl (lv_at hl 1 rfl) ?_
    refine W.lcmp hx hb d_E_wholeThickness_28 ?_
    refine lv_if_gt (tgt := 37) hx hb d_E_wholeThickness_29 (by decide) (fun c_29 => ?_) (fun c_29 => ?_)
    · refine lv_iload hx hb d_E_wholeThickness_37 (lv_at hl 4 rfl) ?_
      refine lv_iconst (v := 2) hx hb d_E_wholeThickness_39 (by decide) ?_
      refine lv_idiv hx hb d_E_wholeThickness_40 (by decide) ?_
      refine lv_topi (fun x_6 ex_6 => ?_)
      have hq : x_6 = nI (2 ^ k / 2) := by
        rw [ex_6, e2, show (2 : Int32) = nI 2 from rfl, pk_div (by omega) (by decide) (by decide)]
      rw [hq]
      refine lv_istore (lv' := [(4, .int (nI (2 ^ k / 2))), (5, .long x_4), (0, .long p0), (2, .int p1), (3, .int x)]) hx hb d_E_wholeThickness_41 hl (by decide) rfl (fun ls hl => ?_)
      refine lv_goto (tgt := 7) hx hb d_E_wholeThickness_43 (by decide) ?_
      exact ih7 (k, x) ls H locs (⟨by omega, by omega, by
        have h9 := (lg_gt _ _).mp c_29
        rw [ex_5, ex_4, ex_3, ex_2, ex_1, e2] at h9
        rw [← hI.2.2, eTh_s, if_pos h9]⟩) (lv_sub hl [2, 3, 4, 0] rfl) hm
    · refine lv_iload_n hx hb d_E_wholeThickness_32 rfl (lv_at hl 3 rfl) ?_
      refine lv_iload hx hb d_E_wholeThickness_33 (lv_at hl 4 rfl) ?_
      refine lv_iadd hx hb d_E_wholeThickness_35 ?_
      refine lv_topi (fun x_7 ex_7 => ?_)
      refine lv_istore_n (lv' := [(3, .int x_7), (5, .long x_4), (0, .long p0), (2, .int p1), (4, .int (nI (2 ^ (k + 1) / 2)))]) hx hb d_E_wholeThickness_36 rfl hl (by decide) rfl (fun ls hl => ?_)
      refine lv_iload hx hb d_E_wholeThickness_37 (lv_at hl 4 rfl) ?_
      refine lv_iconst (v := 2) hx hb d_E_wholeThickness_39 (by decide) ?_
      refine lv_idiv hx hb d_E_wholeThickness_40 (by decide) ?_
      refine lv_topi (fun x_8 ex_8 => ?_)
      have hq : x_8 = nI (2 ^ k / 2) := by
        rw [ex_8, e2, show (2 : Int32) = nI 2 from rfl, pk_div (by omega) (by decide) (by decide)]
      rw [hq]
      refine lv_istore (lv' := [(4, .int (nI (2 ^ k / 2))), (3, .int x_7), (5, .long x_4), (0, .long p0), (2, .int p1)]) hx hb d_E_wholeThickness_41 hl (by decide) rfl (fun ls hl => ?_)
      refine lv_goto (tgt := 7) hx hb d_E_wholeThickness_43 (by decide) ?_
      exact ih7 (k, x_7) ls H locs (⟨by omega, by omega, by
        have h9 := fun q => c_29 ((lg_gt _ _).mpr q)
        rw [ex_5, ex_4, ex_3, ex_2, ex_1, e2] at h9
        rw [← hI.2.2, eTh_s, if_neg h9, ex_7, e2]⟩) (lv_sub hl [3, 4, 1, 0] rfl) hm

set_option maxHeartbeats 4000000 in
set_option maxRecDepth 100000 in
theorem c_E_chip (l : Launch) (hlt : l.stackTraces = false) (D : va_G) (dA : Nat → ClassId) (ad : Nat → Nat) (G : mG) (sz : Nat) (I : Nat → Nat → Int32) (J : Nat → Nat → Int64) (F : Nat → Nat → Nat → Int32) (si : Nat → Nat) (tc oc : Nat) (G0 : mG) (hG : G = gE dA ad I J F si tc oc G0) (ht : tc ≤ 12) (p0 p1 p2 p3 : Int32) : vx_Met l y_E_chip (.code y_E_chip b_E_chip 10 (some .int) :: mBig) ({ frames := 6, cells := 1, slots := 6, locals := 82 }) (mPc [.ref (ad 0), .int p0, .int p1, .int p2, .int p3] D mCl (mTys dA) mTx ad G sz) (mQi (fun (rv : Int32) (u : mU) => ((p3 = 0 ∨ p3 = 1) ∧ ¬ (p0 < 0 ∨ 1000000 < p0 ∨ p2 < 1 ∨ 1000 < p2 ∨ p1 < 0 ∨ p2 < p1) ∧ rv = eChip p0 p1 p2 p3) ∧ u = (ad, G)) D mCl ad G sz) (mXC (fun (E : String) (u : mU) => ((E = "java/lang/IndexOutOfBoundsException" ∧ ¬ (p3 = 0 ∨ p3 = 1)) ∨ (E = "java/lang/IllegalArgumentException" ∧ (p3 = 0 ∨ p3 = 1) ∧ (p0 < 0 ∨ 1000000 < p0 ∨ p2 < 1 ∨ 1000 < p2 ∨ p1 < 0 ∨ p2 < p1))) ∧ u = (ad, G)) D mCl ad G sz) 1 6 (mA ad G sz) := by
  refine vx_ofW (cc := b_E_chip) (maxL := 10) (ret := (some .int)) (by decide) rfl ?_
  intro p e s m args below meth c s₁ B hml hout hv
  obtain ⟨rfl, hsz, hw0, hC⟩ := hv
  have hx := B.exec
  have hb := B.bytes
  have hr := B.returns
  have hts := atoms_spec (ws := .code y_E_chip b_E_chip 10 (some .int) :: mBig) B.pre
  have hT : ∀ w ∈ mBig, w.before _ s = true := fun w h => hts w (List.mem_cons_of_mem _ h)
  have hown : s.vm.findClass "EdgeWear" = some m.cls := findClass_of_methodNamed B.named
  have hlocks := B.notSynchronized
  subst hsz
  have hm := mS.start hw0
  have hA : ∀ q : Nat, s.heap.size ≤ q → mA ad G s.heap.size q := fun q h => Or.inr h
  have hl := lv_entry ([.ref (ad 0), .int p0, .int p1, .int p2, .int p3]) (n := 10) (Nat.le_of_ble_eq_true rfl)
  rw [lg_entry_eq]
  generalize (lg_sl ([.ref (ad 0), .int p0, .int p1, .int p2, .int p3]) ++ List.replicate (10 - (lg_sl ([.ref (ad 0), .int p0, .int p1, .int p2, .int p3])).length) Slot.unset).toArray = ls at hl ⊢
  have hl : lv_has ls 10 [(0, .ref (ad 0)), (1, .int p0), (2, .int p1), (3, .int p2), (4, .int p3)] := hl
  refine lv_iload hx hb d_E_chip_0 (lv_at hl 4 rfl) ?_
  refine lv_if_eq (tgt := 21) hx hb d_E_chip_2 (by decide) (fun c_2 => ?_) (fun c_2 => ?_)
  · refine lv_iload_n hx hb d_E_chip_21 rfl (lv_at hl 1 rfl) ?_
    refine lv_if_lt (tgt := 31) hx hb d_E_chip_22 (by decide) (fun c_22 => ?_) (fun c_22 => ?_)
    · exact m_throwS (cls := "java/lang/IllegalArgumentException") (text := "feed is not 0 .. 1000000") (names := ["java/lang/RuntimeException", "java/lang/Exception"]) (tx := mTx) hx hb hlt hown (by decide +kernel) (by decide +kernel) (hT _ k_202) (hT _ k_9) (by decide +kernel) hC (at_IllegalArgumentException hT hC.2.2.2) (good_IllegalArgumentException) hm (hl.1.trans hml.symm) d_E_chip_31 d_E_chip_34 d_E_chip_35 d_E_chip_37 d_E_chip_40 hout (Nat.le_of_ble_eq_true rfl) (Nat.le_of_ble_eq_true rfl) (Nat.le_of_ble_eq_true rfl) (Nat.le_of_ble_eq_true rfl) hlocks (⟨Or.inr ⟨rfl, Or.inl c_2, Or.inl (c_22)⟩, rfl⟩) (Nat.le_of_ble_eq_true rfl) (Nat.le_of_ble_eq_true rfl)
    · refine lv_iload_n hx hb d_E_chip_25 rfl (lv_at hl 1 rfl) ?_
      refine lv_ldc (v := 1000000) hx hb hown (hT _ k_201) d_E_chip_26 ?_
      refine lv_icmp_le (tgt := 41) hx hb d_E_chip_28 (by decide) (fun c_28 => ?_) (fun c_28 => ?_)
      · refine lv_iload_n hx hb d_E_chip_41 rfl (lv_at hl 3 rfl) ?_
        refine lv_iconst (v := 1) hx hb d_E_chip_42 (by decide) ?_
        refine lv_icmp_lt (tgt := 62) hx hb d_E_chip_43 (by decide) (fun c_43 => ?_) (fun c_43 => ?_)
        · exact m_throwS (cls := "java/lang/IllegalArgumentException") (text := "wide is not 1 .. 1000, or depth is not 0 .. wide") (names := ["java/lang/RuntimeException", "java/lang/Exception"]) (tx := mTx) hx hb hlt hown (by decide +kernel) (by decide +kernel) (hT _ k_202) (hT _ k_9) (by decide +kernel) hC (at_IllegalArgumentException hT hC.2.2.2) (good_IllegalArgumentException) hm (hl.1.trans hml.symm) d_E_chip_62 d_E_chip_65 d_E_chip_66 d_E_chip_68 d_E_chip_71 hout (Nat.le_of_ble_eq_true rfl) (Nat.le_of_ble_eq_true rfl) (Nat.le_of_ble_eq_true rfl) (Nat.le_of_ble_eq_true rfl) hlocks (⟨Or.inr ⟨rfl, Or.inl c_2, Or.inr (Or.inr (Or.inl (c_43)))⟩, rfl⟩) (Nat.le_of_ble_eq_true rfl) (Nat.le_of_ble_eq_true rfl)
        · refine lv_iload_n hx hb d_E_chip_46 rfl (lv_at hl 3 rfl) ?_
          refine lv_sipush (v := 1000) hx hb d_E_chip_47 (by decide) ?_
          refine lv_icmp_gt (tgt := 62) hx hb d_E_chip_50 (by decide) (fun c_50 => ?_) (fun c_50 => ?_)
          · exact m_throwS (cls := "java/lang/IllegalArgumentException") (text := "wide is not 1 .. 1000, or depth is not 0 .. wide") (names := ["java/lang/RuntimeException", "java/lang/Exception"]) (tx := mTx) hx hb hlt hown (by decide +kernel) (by decide +kernel) (hT _ k_202) (hT _ k_9) (by decide +kernel) hC (at_IllegalArgumentException hT hC.2.2.2) (good_IllegalArgumentException) hm (hl.1.trans hml.symm) d_E_chip_62 d_E_chip_65 d_E_chip_66 d_E_chip_68 d_E_chip_71 hout (Nat.le_of_ble_eq_true rfl) (Nat.le_of_ble_eq_true rfl) (Nat.le_of_ble_eq_true rfl) (Nat.le_of_ble_eq_true rfl) hlocks (⟨Or.inr ⟨rfl, Or.inl c_2, Or.inr (Or.inr (Or.inr (Or.inl (c_50))))⟩, rfl⟩) (Nat.le_of_ble_eq_true rfl) (Nat.le_of_ble_eq_true rfl)
          · refine lv_iload_n hx hb d_E_chip_53 rfl (lv_at hl 2 rfl) ?_
            refine lv_if_lt (tgt := 62) hx hb d_E_chip_54 (by decide) (fun c_54 => ?_) (fun c_54 => ?_)
            · exact m_throwS (cls := "java/lang/IllegalArgumentException") (text := "wide is not 1 .. 1000, or depth is not 0 .. wide") (names := ["java/lang/RuntimeException", "java/lang/Exception"]) (tx := mTx) hx hb hlt hown (by decide +kernel) (by decide +kernel) (hT _ k_202) (hT _ k_9) (by decide +kernel) hC (at_IllegalArgumentException hT hC.2.2.2) (good_IllegalArgumentException) hm (hl.1.trans hml.symm) d_E_chip_62 d_E_chip_65 d_E_chip_66 d_E_chip_68 d_E_chip_71 hout (Nat.le_of_ble_eq_true rfl) (Nat.le_of_ble_eq_true rfl) (Nat.le_of_ble_eq_true rfl) (Nat.le_of_ble_eq_true rfl) hlocks (⟨Or.inr ⟨rfl, Or.inl c_2, Or.inr (Or.inr (Or.inr (Or.inr (Or.inl (c_54)))))⟩, rfl⟩) (Nat.le_of_ble_eq_true rfl) (Nat.le_of_ble_eq_true rfl)
            · refine lv_iload_n hx hb d_E_chip_57 rfl (lv_at hl 2 rfl) ?_
              refine lv_iload_n hx hb d_E_chip_58 rfl (lv_at hl 3 rfl) ?_
              refine lv_icmp_le (tgt := 72) hx hb d_E_chip_59 (by decide) (fun c_59 => ?_) (fun c_59 => ?_)
              · refine lv_ldc2 (v := 4) hx hb hown (hT _ k_469) d_E_chip_72 ?_
                refine lv_iload_n hx hb d_E_chip_75 rfl (lv_at hl 1 rfl) ?_
                refine lv_i2l hx hb d_E_chip_76 rfl ?_
                refine lv_topl (fun x_1 ex_1 => ?_)
                refine lv_lmul hx hb d_E_chip_77 ?_
                refine lv_topl (fun x_2 ex_2 => ?_)
                refine lv_iload_n hx hb d_E_chip_78 rfl (lv_at hl 1 rfl) ?_
                refine lv_i2l hx hb d_E_chip_79 rfl ?_
                refine lv_topl (fun x_3 ex_3 => ?_)
                refine lv_lmul hx hb d_E_chip_80 ?_
                refine lv_topl (fun x_4 ex_4 => ?_)
                refine lv_iload_n hx hb d_E_chip_81 rfl (lv_at hl 2 rfl) ?_
                refine lv_i2l hx hb d_E_chip_82 rfl ?_
                refine lv_topl (fun x_5 ex_5 => ?_)
                refine lv_lmul hx hb d_E_chip_83 ?_
                refine lv_topl (fun x_6 ex_6 => ?_)
                refine lv_iload_n hx hb d_E_chip_84 rfl (lv_at hl 3 rfl) ?_
                refine lv_iload_n hx hb d_E_chip_85 rfl (lv_at hl 2 rfl) ?_
                refine lv_isub hx hb d_E_chip_86 ?_
                refine lv_topi (fun x_7 ex_7 => ?_)
                refine lv_i2l hx hb d_E_chip_87 rfl ?_
                refine lv_topl (fun x_8 ex_8 => ?_)
                refine lv_lmul hx hb d_E_chip_88 ?_
                refine lv_topl (fun x_9 ex_9 => ?_)
                refine lv_lstore (lv' := [(5, .long x_9), (0, .ref (ad 0)), (1, .int p0), (2, .int p1), (3, .int p2), (4, .int p3)]) hx hb d_E_chip_89 hl (by decide) rfl (fun ls hl => ?_)
                refine lv_lload hx hb d_E_chip_91 (lv_at hl 0 rfl) ?_
                refine lv_iload_n hx hb d_E_chip_93 rfl (lv_at hl 4 rfl) ?_
                refine m_roi (m_runS (As := [.long x_9, .int p2]) (rest := []) ⟨hx, hb, hml, hown, hts⟩ (c_E_wholeThickness l D dA ad G s.heap.size I J F si tc oc G0 hG ht x_9 p2) (va_cwS 2 hts (gS k_581 k_579 k_580 k_1) rfl rfl rfl (by decide +kernel) ⟨Nat.le_of_ble_eq_true rfl, Nat.le_of_ble_eq_true rfl⟩) hm hA hC rfl hl.1 rfl (Nat.le_of_ble_eq_true rfl) d_E_chip_94 ⟨Nat.le_of_ble_eq_true rfl, Nat.le_of_ble_eq_true rfl⟩) hm hA (fun r_10 H locs w_11 hm => ?_)
                refine lv_istore (lv' := [(7, .int r_10), (5, .long x_9), (0, .ref (ad 0)), (1, .int p0), (2, .int p1), (3, .int p2), (4, .int p3)]) hx hb d_E_chip_97 hl (by decide) rfl (fun ls hl => ?_)
                refine lv_iload hx hb d_E_chip_99 (lv_at hl 0 rfl) ?_
                refine lv_i2l hx hb d_E_chip_101 rfl ?_
                refine lv_topl (fun x_12 ex_12 => ?_)
                refine lv_iload_n hx hb d_E_chip_102 rfl (lv_at hl 5 rfl) ?_
                refine lv_i2l hx hb d_E_chip_103 rfl ?_
                refine lv_topl (fun x_13 ex_13 => ?_)
                refine lv_lmul hx hb d_E_chip_104 ?_
                refine lv_topl (fun x_14 ex_14 => ?_)
                refine lv_lstore (lv' := [(8, .long x_14), (7, .int r_10), (5, .long x_9), (0, .ref (ad 0)), (1, .int p0), (2, .int p1), (3, .int p2), (4, .int p3)]) hx hb d_E_chip_105 hl (by decide) rfl (fun ls hl => ?_)
                refine lv_iload hx hb d_E_chip_107 (lv_at hl 7 rfl) ?_
                refine lv_iconst (v := 1) hx hb d_E_chip_109 (by decide) ?_
                refine lv_icmp_ne (tgt := 131) hx hb d_E_chip_110 (by decide) (fun c_110 => ?_) (fun c_110 => ?_)
                · refine lv_iload hx hb d_E_chip_131 (lv_at hl 1 rfl) ?_
                  refine W.widen (k := 1) (n := 6) (by omega) (by omega) ?_
                  refine vx_ret ?_
                  exact m_iret (v := r_10) hx hb hr hm (⟨⟨Or.inl c_2, fun h => h.elim c_22 (fun h => h.elim (fun h => Int32.not_lt.mpr c_28 h) (fun h => h.elim c_43 (fun h => h.elim c_50 (fun h => h.elim c_54 (fun h => Int32.not_lt.mpr c_59 h))))), by
                    have hsq : x_9 = eSq p0 p1 p2 := by
                      rw [ex_9, ex_8, ex_7, ex_6, ex_5, ex_4, ex_3, ex_2, ex_1]
                      rfl
                    have hwh : r_10 = eTh (eSq p0 p1 p2) p2 20 0 := by rw [← hsq]; exact w_11
                    unfold eChip
                    rw [if_neg (fun h => c_110 h.1), hwh]⟩, rfl⟩) d_E_chip_133 hlocks
                · refine lv_lload hx hb d_E_chip_113 (lv_at hl 0 rfl) ?_
                  refine lv_lload hx hb d_E_chip_115 (lv_at hl 0 rfl) ?_
                  refine lv_lmul hx hb d_E_chip_117 ?_
                  refine lv_topl (fun x_15 ex_15 => ?_)
                  refine lv_lload hx hb d_E_chip_118 (lv_at hl 2 rfl) ?_
                  refine W.lcmp hx hb d_E_chip_120 ?_
                  refine lv_if_ge (tgt := 131) hx hb d_E_chip_121 (by decide) (fun c_121 => ?_) (fun c_121 => ?_)
                  · refine lv_iload hx hb d_E_chip_131 (lv_at hl 1 rfl) ?_
                    refine W.widen (k := 1) (n := 6) (by omega) (by omega) ?_
                    refine vx_ret ?_
                    exact m_iret (v := r_10) hx hb hr hm (⟨⟨Or.inl c_2, fun h => h.elim c_22 (fun h => h.elim (fun h => Int32.not_lt.mpr c_28 h) (fun h => h.elim c_43 (fun h => h.elim c_50 (fun h => h.elim c_54 (fun h => Int32.not_lt.mpr c_59 h))))), by
                      have hsq : x_9 = eSq p0 p1 p2 := by
                        rw [ex_9, ex_8, ex_7, ex_6, ex_5, ex_4, ex_3, ex_2, ex_1]
                        rfl
                      have hwh : r_10 = eTh (eSq p0 p1 p2) p2 20 0 := by rw [← hsq]; exact w_11
                      unfold eChip
                      rw [if_neg (fun h => by
                          have h9 := (lg_cmp_ge _ _).mp c_121
                          rw [ex_15, ex_14, ex_13, ex_12, hwh, hsq] at h9
                          exact Int64.not_lt.mpr h9 h.2), hwh]⟩, rfl⟩) d_E_chip_133 hlocks
                  · refine lv_iload hx hb d_E_chip_124 (lv_at hl 1 rfl) ?_
                    refine lv_iconst (v := 1) hx hb d_E_chip_126 (by decide) ?_
                    refine lv_iadd hx hb d_E_chip_127 ?_
                    refine lv_topi (fun x_16 ex_16 => ?_)
                    refine lv_goto (tgt := 133) hx hb d_E_chip_128 (by decide) ?_
                    refine W.widen (k := 1) (n := 6) (by omega) (by omega) ?_
                    refine vx_ret ?_
                    exact m_iret (v := x_16) hx hb hr hm (⟨⟨Or.inl c_2, fun h => h.elim c_22 (fun h => h.elim (fun h => Int32.not_lt.mpr c_28 h) (fun h => h.elim c_43 (fun h => h.elim c_50 (fun h => h.elim c_54 (fun h => Int32.not_lt.mpr c_59 h))))), by
                      have hsq : x_9 = eSq p0 p1 p2 := by
                        rw [ex_9, ex_8, ex_7, ex_6, ex_5, ex_4, ex_3, ex_2, ex_1]
                        rfl
                      have hwh : r_10 = eTh (eSq p0 p1 p2) p2 20 0 := by rw [← hsq]; exact w_11
                      unfold eChip
                      rw [if_pos ⟨c_110, by
                          have h9 := (lg_lt _ _).mp (Int32.not_le.mp c_121)
                          rw [ex_15, ex_14, ex_13, ex_12, hwh, hsq] at h9
                          exact h9⟩, ex_16, hwh]⟩, rfl⟩) d_E_chip_133 hlocks
              · exact m_throwS (cls := "java/lang/IllegalArgumentException") (text := "wide is not 1 .. 1000, or depth is not 0 .. wide") (names := ["java/lang/RuntimeException", "java/lang/Exception"]) (tx := mTx) hx hb hlt hown (by decide +kernel) (by decide +kernel) (hT _ k_202) (hT _ k_9) (by decide +kernel) hC (at_IllegalArgumentException hT hC.2.2.2) (good_IllegalArgumentException) hm (hl.1.trans hml.symm) d_E_chip_62 d_E_chip_65 d_E_chip_66 d_E_chip_68 d_E_chip_71 hout (Nat.le_of_ble_eq_true rfl) (Nat.le_of_ble_eq_true rfl) (Nat.le_of_ble_eq_true rfl) (Nat.le_of_ble_eq_true rfl) hlocks (⟨Or.inr ⟨rfl, Or.inl c_2, Or.inr (Or.inr (Or.inr (Or.inr (Or.inr ((Int32.not_le.mp c_59))))))⟩, rfl⟩) (Nat.le_of_ble_eq_true rfl) (Nat.le_of_ble_eq_true rfl)
      · exact m_throwS (cls := "java/lang/IllegalArgumentException") (text := "feed is not 0 .. 1000000") (names := ["java/lang/RuntimeException", "java/lang/Exception"]) (tx := mTx) hx hb hlt hown (by decide +kernel) (by decide +kernel) (hT _ k_202) (hT _ k_9) (by decide +kernel) hC (at_IllegalArgumentException hT hC.2.2.2) (good_IllegalArgumentException) hm (hl.1.trans hml.symm) d_E_chip_31 d_E_chip_34 d_E_chip_35 d_E_chip_37 d_E_chip_40 hout (Nat.le_of_ble_eq_true rfl) (Nat.le_of_ble_eq_true rfl) (Nat.le_of_ble_eq_true rfl) (Nat.le_of_ble_eq_true rfl) hlocks (⟨Or.inr ⟨rfl, Or.inl c_2, Or.inr (Or.inl (Int32.not_le.mp c_28))⟩, rfl⟩) (Nat.le_of_ble_eq_true rfl) (Nat.le_of_ble_eq_true rfl)
  · refine lv_iload hx hb d_E_chip_5 (lv_at hl 4 rfl) ?_
    refine lv_iconst (v := 1) hx hb d_E_chip_7 (by decide) ?_
    refine lv_icmp_eq (tgt := 21) hx hb d_E_chip_8 (by decide) (fun c_8 => ?_) (fun c_8 => ?_)
    · refine lv_iload_n hx hb d_E_chip_21 rfl (lv_at hl 1 rfl) ?_
      refine lv_if_lt (tgt := 31) hx hb d_E_chip_22 (by decide) (fun c_22 => ?_) (fun c_22 => ?_)
      · exact m_throwS (cls := "java/lang/IllegalArgumentException") (text := "feed is not 0 .. 1000000") (names := ["java/lang/RuntimeException", "java/lang/Exception"]) (tx := mTx) hx hb hlt hown (by decide +kernel) (by decide +kernel) (hT _ k_202) (hT _ k_9) (by decide +kernel) hC (at_IllegalArgumentException hT hC.2.2.2) (good_IllegalArgumentException) hm (hl.1.trans hml.symm) d_E_chip_31 d_E_chip_34 d_E_chip_35 d_E_chip_37 d_E_chip_40 hout (Nat.le_of_ble_eq_true rfl) (Nat.le_of_ble_eq_true rfl) (Nat.le_of_ble_eq_true rfl) (Nat.le_of_ble_eq_true rfl) hlocks (⟨Or.inr ⟨rfl, Or.inr c_8, Or.inl (c_22)⟩, rfl⟩) (Nat.le_of_ble_eq_true rfl) (Nat.le_of_ble_eq_true rfl)
      · refine lv_iload_n hx hb d_E_chip_25 rfl (lv_at hl 1 rfl) ?_
        refine lv_ldc (v := 1000000) hx hb hown (hT _ k_201) d_E_chip_26 ?_
        refine lv_icmp_le (tgt := 41) hx hb d_E_chip_28 (by decide) (fun c_28 => ?_) (fun c_28 => ?_)
        · refine lv_iload_n hx hb d_E_chip_41 rfl (lv_at hl 3 rfl) ?_
          refine lv_iconst (v := 1) hx hb d_E_chip_42 (by decide) ?_
          refine lv_icmp_lt (tgt := 62) hx hb d_E_chip_43 (by decide) (fun c_43 => ?_) (fun c_43 => ?_)
          · exact m_throwS (cls := "java/lang/IllegalArgumentException") (text := "wide is not 1 .. 1000, or depth is not 0 .. wide") (names := ["java/lang/RuntimeException", "java/lang/Exception"]) (tx := mTx) hx hb hlt hown (by decide +kernel) (by decide +kernel) (hT _ k_202) (hT _ k_9) (by decide +kernel) hC (at_IllegalArgumentException hT hC.2.2.2) (good_IllegalArgumentException) hm (hl.1.trans hml.symm) d_E_chip_62 d_E_chip_65 d_E_chip_66 d_E_chip_68 d_E_chip_71 hout (Nat.le_of_ble_eq_true rfl) (Nat.le_of_ble_eq_true rfl) (Nat.le_of_ble_eq_true rfl) (Nat.le_of_ble_eq_true rfl) hlocks (⟨Or.inr ⟨rfl, Or.inr c_8, Or.inr (Or.inr (Or.inl (c_43)))⟩, rfl⟩) (Nat.le_of_ble_eq_true rfl) (Nat.le_of_ble_eq_true rfl)
          · refine lv_iload_n hx hb d_E_chip_46 rfl (lv_at hl 3 rfl) ?_
            refine lv_sipush (v := 1000) hx hb d_E_chip_47 (by decide) ?_
            refine lv_icmp_gt (tgt := 62) hx hb d_E_chip_50 (by decide) (fun c_50 => ?_) (fun c_50 => ?_)
            · exact m_throwS (cls := "java/lang/IllegalArgumentException") (text := "wide is not 1 .. 1000, or depth is not 0 .. wide") (names := ["java/lang/RuntimeException", "java/lang/Exception"]) (tx := mTx) hx hb hlt hown (by decide +kernel) (by decide +kernel) (hT _ k_202) (hT _ k_9) (by decide +kernel) hC (at_IllegalArgumentException hT hC.2.2.2) (good_IllegalArgumentException) hm (hl.1.trans hml.symm) d_E_chip_62 d_E_chip_65 d_E_chip_66 d_E_chip_68 d_E_chip_71 hout (Nat.le_of_ble_eq_true rfl) (Nat.le_of_ble_eq_true rfl) (Nat.le_of_ble_eq_true rfl) (Nat.le_of_ble_eq_true rfl) hlocks (⟨Or.inr ⟨rfl, Or.inr c_8, Or.inr (Or.inr (Or.inr (Or.inl (c_50))))⟩, rfl⟩) (Nat.le_of_ble_eq_true rfl) (Nat.le_of_ble_eq_true rfl)
            · refine lv_iload_n hx hb d_E_chip_53 rfl (lv_at hl 2 rfl) ?_
              refine lv_if_lt (tgt := 62) hx hb d_E_chip_54 (by decide) (fun c_54 => ?_) (fun c_54 => ?_)
              · exact m_throwS (cls := "java/lang/IllegalArgumentException") (text := "wide is not 1 .. 1000, or depth is not 0 .. wide") (names := ["java/lang/RuntimeException", "java/lang/Exception"]) (tx := mTx) hx hb hlt hown (by decide +kernel) (by decide +kernel) (hT _ k_202) (hT _ k_9) (by decide +kernel) hC (at_IllegalArgumentException hT hC.2.2.2) (good_IllegalArgumentException) hm (hl.1.trans hml.symm) d_E_chip_62 d_E_chip_65 d_E_chip_66 d_E_chip_68 d_E_chip_71 hout (Nat.le_of_ble_eq_true rfl) (Nat.le_of_ble_eq_true rfl) (Nat.le_of_ble_eq_true rfl) (Nat.le_of_ble_eq_true rfl) hlocks (⟨Or.inr ⟨rfl, Or.inr c_8, Or.inr (Or.inr (Or.inr (Or.inr (Or.inl (c_54)))))⟩, rfl⟩) (Nat.le_of_ble_eq_true rfl) (Nat.le_of_ble_eq_true rfl)
              · refine lv_iload_n hx hb d_E_chip_57 rfl (lv_at hl 2 rfl) ?_
                refine lv_iload_n hx hb d_E_chip_58 rfl (lv_at hl 3 rfl) ?_
                refine lv_icmp_le (tgt := 72) hx hb d_E_chip_59 (by decide) (fun c_59 => ?_) (fun c_59 => ?_)
                · refine lv_ldc2 (v := 4) hx hb hown (hT _ k_469) d_E_chip_72 ?_
                  refine lv_iload_n hx hb d_E_chip_75 rfl (lv_at hl 1 rfl) ?_
                  refine lv_i2l hx hb d_E_chip_76 rfl ?_
                  refine lv_topl (fun x_17 ex_17 => ?_)
                  refine lv_lmul hx hb d_E_chip_77 ?_
                  refine lv_topl (fun x_18 ex_18 => ?_)
                  refine lv_iload_n hx hb d_E_chip_78 rfl (lv_at hl 1 rfl) ?_
                  refine lv_i2l hx hb d_E_chip_79 rfl ?_
                  refine lv_topl (fun x_19 ex_19 => ?_)
                  refine lv_lmul hx hb d_E_chip_80 ?_
                  refine lv_topl (fun x_20 ex_20 => ?_)
                  refine lv_iload_n hx hb d_E_chip_81 rfl (lv_at hl 2 rfl) ?_
                  refine lv_i2l hx hb d_E_chip_82 rfl ?_
                  refine lv_topl (fun x_21 ex_21 => ?_)
                  refine lv_lmul hx hb d_E_chip_83 ?_
                  refine lv_topl (fun x_22 ex_22 => ?_)
                  refine lv_iload_n hx hb d_E_chip_84 rfl (lv_at hl 3 rfl) ?_
                  refine lv_iload_n hx hb d_E_chip_85 rfl (lv_at hl 2 rfl) ?_
                  refine lv_isub hx hb d_E_chip_86 ?_
                  refine lv_topi (fun x_23 ex_23 => ?_)
                  refine lv_i2l hx hb d_E_chip_87 rfl ?_
                  refine lv_topl (fun x_24 ex_24 => ?_)
                  refine lv_lmul hx hb d_E_chip_88 ?_
                  refine lv_topl (fun x_25 ex_25 => ?_)
                  refine lv_lstore (lv' := [(5, .long x_25), (0, .ref (ad 0)), (1, .int p0), (2, .int p1), (3, .int p2), (4, .int p3)]) hx hb d_E_chip_89 hl (by decide) rfl (fun ls hl => ?_)
                  refine lv_lload hx hb d_E_chip_91 (lv_at hl 0 rfl) ?_
                  refine lv_iload_n hx hb d_E_chip_93 rfl (lv_at hl 4 rfl) ?_
                  refine m_roi (m_runS (As := [.long x_25, .int p2]) (rest := []) ⟨hx, hb, hml, hown, hts⟩ (c_E_wholeThickness l D dA ad G s.heap.size I J F si tc oc G0 hG ht x_25 p2) (va_cwS 2 hts (gS k_581 k_579 k_580 k_1) rfl rfl rfl (by decide +kernel) ⟨Nat.le_of_ble_eq_true rfl, Nat.le_of_ble_eq_true rfl⟩) hm hA hC rfl hl.1 rfl (Nat.le_of_ble_eq_true rfl) d_E_chip_94 ⟨Nat.le_of_ble_eq_true rfl, Nat.le_of_ble_eq_true rfl⟩) hm hA (fun r_26 H locs w_27 hm => ?_)
                  refine lv_istore (lv' := [(7, .int r_26), (5, .long x_25), (0, .ref (ad 0)), (1, .int p0), (2, .int p1), (3, .int p2), (4, .int p3)]) hx hb d_E_chip_97 hl (by decide) rfl (fun ls hl => ?_)
                  refine lv_iload hx hb d_E_chip_99 (lv_at hl 0 rfl) ?_
                  refine lv_i2l hx hb d_E_chip_101 rfl ?_
                  refine lv_topl (fun x_28 ex_28 => ?_)
                  refine lv_iload_n hx hb d_E_chip_102 rfl (lv_at hl 5 rfl) ?_
                  refine lv_i2l hx hb d_E_chip_103 rfl ?_
                  refine lv_topl (fun x_29 ex_29 => ?_)
                  refine lv_lmul hx hb d_E_chip_104 ?_
                  refine lv_topl (fun x_30 ex_30 => ?_)
                  refine lv_lstore (lv' := [(8, .long x_30), (7, .int r_26), (5, .long x_25), (0, .ref (ad 0)), (1, .int p0), (2, .int p1), (3, .int p2), (4, .int p3)]) hx hb d_E_chip_105 hl (by decide) rfl (fun ls hl => ?_)
                  refine lv_iload hx hb d_E_chip_107 (lv_at hl 7 rfl) ?_
                  refine lv_iconst (v := 1) hx hb d_E_chip_109 (by decide) ?_
                  refine lv_icmp_ne (tgt := 131) hx hb d_E_chip_110 (by decide) (fun c_110 => ?_) (fun c_110 => ?_)
                  · refine lv_iload hx hb d_E_chip_131 (lv_at hl 1 rfl) ?_
                    refine W.widen (k := 1) (n := 6) (by omega) (by omega) ?_
                    refine vx_ret ?_
                    exact m_iret (v := r_26) hx hb hr hm (⟨⟨Or.inr c_8, fun h => h.elim c_22 (fun h => h.elim (fun h => Int32.not_lt.mpr c_28 h) (fun h => h.elim c_43 (fun h => h.elim c_50 (fun h => h.elim c_54 (fun h => Int32.not_lt.mpr c_59 h))))), by
                      have hsq : x_25 = eSq p0 p1 p2 := by
                        rw [ex_25, ex_24, ex_23, ex_22, ex_21, ex_20, ex_19, ex_18, ex_17]
                        rfl
                      have hwh : r_26 = eTh (eSq p0 p1 p2) p2 20 0 := by rw [← hsq]; exact w_27
                      unfold eChip
                      rw [if_neg (fun h => c_110 h.1), hwh]⟩, rfl⟩) d_E_chip_133 hlocks
                  · refine lv_lload hx hb d_E_chip_113 (lv_at hl 0 rfl) ?_
                    refine lv_lload hx hb d_E_chip_115 (lv_at hl 0 rfl) ?_
                    refine lv_lmul hx hb d_E_chip_117 ?_
                    refine lv_topl (fun x_31 ex_31 => ?_)
                    refine lv_lload hx hb d_E_chip_118 (lv_at hl 2 rfl) ?_
                    refine W.lcmp hx hb d_E_chip_120 ?_
                    refine lv_if_ge (tgt := 131) hx hb d_E_chip_121 (by decide) (fun c_121 => ?_) (fun c_121 => ?_)
                    · refine lv_iload hx hb d_E_chip_131 (lv_at hl 1 rfl) ?_
                      refine W.widen (k := 1) (n := 6) (by omega) (by omega) ?_
                      refine vx_ret ?_
                      exact m_iret (v := r_26) hx hb hr hm (⟨⟨Or.inr c_8, fun h => h.elim c_22 (fun h => h.elim (fun h => Int32.not_lt.mpr c_28 h) (fun h => h.elim c_43 (fun h => h.elim c_50 (fun h => h.elim c_54 (fun h => Int32.not_lt.mpr c_59 h))))), by
                        have hsq : x_25 = eSq p0 p1 p2 := by
                          rw [ex_25, ex_24, ex_23, ex_22, ex_21, ex_20, ex_19, ex_18, ex_17]
                          rfl
                        have hwh : r_26 = eTh (eSq p0 p1 p2) p2 20 0 := by rw [← hsq]; exact w_27
                        unfold eChip
                        rw [if_neg (fun h => by
                            have h9 := (lg_cmp_ge _ _).mp c_121
                            rw [ex_31, ex_30, ex_29, ex_28, hwh, hsq] at h9
                            exact Int64.not_lt.mpr h9 h.2), hwh]⟩, rfl⟩) d_E_chip_133 hlocks
                    · refine lv_iload hx hb d_E_chip_124 (lv_at hl 1 rfl) ?_
                      refine lv_iconst (v := 1) hx hb d_E_chip_126 (by decide) ?_
                      refine lv_iadd hx hb d_E_chip_127 ?_
                      refine lv_topi (fun x_32 ex_32 => ?_)
                      refine lv_goto (tgt := 133) hx hb d_E_chip_128 (by decide) ?_
                      refine W.widen (k := 1) (n := 6) (by omega) (by omega) ?_
                      refine vx_ret ?_
                      exact m_iret (v := x_32) hx hb hr hm (⟨⟨Or.inr c_8, fun h => h.elim c_22 (fun h => h.elim (fun h => Int32.not_lt.mpr c_28 h) (fun h => h.elim c_43 (fun h => h.elim c_50 (fun h => h.elim c_54 (fun h => Int32.not_lt.mpr c_59 h))))), by
                        have hsq : x_25 = eSq p0 p1 p2 := by
                          rw [ex_25, ex_24, ex_23, ex_22, ex_21, ex_20, ex_19, ex_18, ex_17]
                          rfl
                        have hwh : r_26 = eTh (eSq p0 p1 p2) p2 20 0 := by rw [← hsq]; exact w_27
                        unfold eChip
                        rw [if_pos ⟨c_110, by
                            have h9 := (lg_lt _ _).mp (Int32.not_le.mp c_121)
                            rw [ex_31, ex_30, ex_29, ex_28, hwh, hsq] at h9
                            exact h9⟩, ex_32, hwh]⟩, rfl⟩) d_E_chip_133 hlocks
                · exact m_throwS (cls := "java/lang/IllegalArgumentException") (text := "wide is not 1 .. 1000, or depth is not 0 .. wide") (names := ["java/lang/RuntimeException", "java/lang/Exception"]) (tx := mTx) hx hb hlt hown (by decide +kernel) (by decide +kernel) (hT _ k_202) (hT _ k_9) (by decide +kernel) hC (at_IllegalArgumentException hT hC.2.2.2) (good_IllegalArgumentException) hm (hl.1.trans hml.symm) d_E_chip_62 d_E_chip_65 d_E_chip_66 d_E_chip_68 d_E_chip_71 hout (Nat.le_of_ble_eq_true rfl) (Nat.le_of_ble_eq_true rfl) (Nat.le_of_ble_eq_true rfl) (Nat.le_of_ble_eq_true rfl) hlocks (⟨Or.inr ⟨rfl, Or.inr c_8, Or.inr (Or.inr (Or.inr (Or.inr (Or.inr ((Int32.not_le.mp c_59))))))⟩, rfl⟩) (Nat.le_of_ble_eq_true rfl) (Nat.le_of_ble_eq_true rfl)
        · exact m_throwS (cls := "java/lang/IllegalArgumentException") (text := "feed is not 0 .. 1000000") (names := ["java/lang/RuntimeException", "java/lang/Exception"]) (tx := mTx) hx hb hlt hown (by decide +kernel) (by decide +kernel) (hT _ k_202) (hT _ k_9) (by decide +kernel) hC (at_IllegalArgumentException hT hC.2.2.2) (good_IllegalArgumentException) hm (hl.1.trans hml.symm) d_E_chip_31 d_E_chip_34 d_E_chip_35 d_E_chip_37 d_E_chip_40 hout (Nat.le_of_ble_eq_true rfl) (Nat.le_of_ble_eq_true rfl) (Nat.le_of_ble_eq_true rfl) (Nat.le_of_ble_eq_true rfl) hlocks (⟨Or.inr ⟨rfl, Or.inr c_8, Or.inr (Or.inl (Int32.not_le.mp c_28))⟩, rfl⟩) (Nat.le_of_ble_eq_true rfl) (Nat.le_of_ble_eq_true rfl)
    · exact m_throwS (cls := "java/lang/IndexOutOfBoundsException") (text := "no such end") (names := ["java/lang/RuntimeException", "java/lang/Exception"]) (tx := mTx) hx hb hlt hown (by decide +kernel) (by decide +kernel) (hT _ k_133) (hT _ k_8) (by decide +kernel) hC (at_IndexOutOfBoundsException hT hC.2.2.2) (good_IndexOutOfBoundsException) hm (hl.1.trans hml.symm) d_E_chip_11 d_E_chip_14 d_E_chip_15 d_E_chip_17 d_E_chip_20 hout (Nat.le_of_ble_eq_true rfl) (Nat.le_of_ble_eq_true rfl) (Nat.le_of_ble_eq_true rfl) (Nat.le_of_ble_eq_true rfl) hlocks (⟨Or.inl ⟨rfl, fun h => h.elim c_2 c_8⟩, rfl⟩) (Nat.le_of_ble_eq_true rfl) (Nat.le_of_ble_eq_true rfl)
