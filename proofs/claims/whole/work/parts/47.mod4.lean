set_option maxHeartbeats 4000000 in
set_option maxRecDepth 100000 in
theorem c_M_costs (l : Launch) (D : va_G) (dA : Nat → ClassId) (ad : Nat → Nat) (G : mG) (sz : Nat) (A : Nat → Nat → Int32) (B : Nat → Nat → Int64) (S : Nat → Int32) (sd : Int64) (G0 : mG) (hG : G = gM dA ad A B S sd G0) (p0 p1 : Int32) (i kc : Nat) (hi : i < 4) (ep : p0 = nI i) (hc : kc ≤ 40) (ec : A 14 i = nI kc) (ch fa : Int32) (hch : B 15 i = ch.toInt64) (hfa : B 16 i = fa.toInt64) : Met l y_M_costs (.code y_M_costs b_M_costs 6 (some .long) :: mBig) ({ frames := 0, cells := 0, slots := 0, locals := 0 }) (mPc [.ref (ad 1000), .int p0, .int p1] D mCl (mTys dA) mTx ad G sz) (mQl (fun (rv : Int64) (u : mU) => (rv = eCost (fun q => A 13 (40 * i + q)) ch fa p1 kc) ∧ u = (ad, G)) D mCl ad G sz) 0 0 (mA ad G sz) := by
  refine Met.ofW (cc := b_M_costs) (maxL := 6) (ret := (some .long)) (by decide) rfl ?_
  intro p e s m args below meth c s₁ BB hml hv
  obtain ⟨rfl, hsz, hw0, hC⟩ := hv
  have hx := BB.exec
  have hb := BB.bytes
  have hr := BB.returns
  have hts := atoms_spec (ws := .code y_M_costs b_M_costs 6 (some .long) :: mBig) BB.pre
  have hT : ∀ w ∈ mBig, w.before _ s = true := fun w h => hts w (List.mem_cons_of_mem _ h)
  have hown : s.vm.findClass "EdgeWearModel" = some m.cls := findClass_of_methodNamed BB.named
  have hlocks := BB.notSynchronized
  subst hsz
  have hm := mS.start hw0
  have hA : ∀ q : Nat, s.heap.size ≤ q → mA ad G s.heap.size q := fun q h => Or.inr h
  have hl := lv_entry ([.ref (ad 1000), .int p0, .int p1]) (n := 6) (Nat.le_of_ble_eq_true rfl)
  rw [lg_entry_eq]
  generalize (lg_sl ([.ref (ad 1000), .int p0, .int p1]) ++ List.replicate (6 - (lg_sl ([.ref (ad 1000), .int p0, .int p1])).length) Slot.unset).toArray = ls at hl ⊢
  have hl : lv_has ls 6 [(0, .ref (ad 1000)), (1, .int p0), (2, .int p1)] := hl
  refine lv_lconst (v := 0) hx hb d_M_costs_0 (by decide) ?_
  refine lv_lstore_n (lv' := [(3, .long 0), (0, .ref (ad 1000)), (1, .int p0), (2, .int p1)]) hx hb d_M_costs_1 rfl hl (by decide) rfl (fun ls hl => ?_)
  refine lv_iconst (v := 0) hx hb d_M_costs_2 (by decide) ?_
  refine lv_istore (lv' := [(5, .int 0), (3, .long 0), (0, .ref (ad 1000)), (1, .int p0), (2, .int p1)]) hx hb d_M_costs_3 hl (by decide) rfl (fun ls hl => ?_)
  refine m_loopH (nL := 6) (head := 5) (fun (q9 : Nat) => fun (x : Nat) => match x with | k => k + q9 = kc + 1 ∧ k ≤ kc ∧ True) (fun (x : Nat) => match x with | k => [(0, .ref (ad 1000)), (1, .int p0), (2, .int p1), (3, .long (eCost (fun q => A 13 (40 * i + q)) ch fa p1 k)), (5, .int (nI k))]) (fun _ => G) (fun k h => by have h1 := h.1; have h2 := h.2.1; omega) (fun q9 x ls H locs hI hl hm ih5 => ?_) (kc) (0) (⟨by omega, by omega, trivial⟩) (lv_sub hl [2, 3, 4, 1, 0] rfl) hm
  obtain ⟨k, ek⟩ : ∃ z, z = x := ⟨_, rfl⟩
  subst ek
  replace hI : (fun (q9 : Nat) => k + q9 = kc + 1 ∧ k ≤ kc ∧ True) (q9 + 1) := hI
  have hl : lv_has ls 6 [(0, .ref (ad 1000)), (1, .int p0), (2, .int p1), (3, .long (eCost (fun q => A 13 (40 * i + q)) ch fa p1 k)), (5, .int (nI k))] := hl
  refine lv_iload hx hb d_M_costs_5 (lv_at hl 4 rfl) ?_
  refine lv_aload_n hx hb d_M_costs_7 rfl (lv_at hl 0 rfl) ?_
  refine m_get (v := .ref (ad 1014)) (C := R_M) (T := T_M) (N := 28) hx hb hT in_M hown hC.1 hm 1000 rfl ((congrFun hG 1000).trans gM_o) rfl 14 (by decide) (hT _ k_604) (fun _ h9 => h9) rfl d_M_costs_8 ?_
  refine lv_iload_n hx hb d_M_costs_11 rfl (lv_at hl 1 rfl) ?_
  refine m_iald (v := A 14 i) hx hb hC.1 hm 1014 rfl 0 ((congrFun hG 1014).trans gM_14) rfl (by rw [ep]; exact vp_in_nI (by omega) (by decide)) (by rw [ep, nI_clamp (by omega)]) d_M_costs_12 ?_
  refine lv_icmp_ge (tgt := 56) hx hb d_M_costs_13 (by decide) (fun c_13 => ?_) (fun c_13 => ?_)
  · have hge : k = kc := by
      have h9 := c_13
      rw [ec] at h9
      have := (nI_leI (by omega) (by omega)).mp h9
      omega
    refine lv_lload_n hx hb d_M_costs_56 rfl (lv_at hl 3 rfl) ?_
    exact m_lret (v := eCost (fun q => A 13 (40 * i + q)) ch fa p1 k) hx hb hr hm (⟨by rw [hge], rfl⟩) d_M_costs_57 hlocks
  · have hk12 : k < kc := by
      have h9 := Int32.not_le.mp c_13
      rw [ec] at h9
      exact (nI_ltI (by omega) (by omega)).mp h9
    refine lv_lload_n hx hb d_M_costs_16 rfl (lv_at hl 3 rfl) ?_
    refine lv_aload_n hx hb d_M_costs_17 rfl (lv_at hl 0 rfl) ?_
    refine m_get (v := .ref (ad 1013)) (C := R_M) (T := T_M) (N := 28) hx hb hT in_M hown hC.1 hm 1000 rfl ((congrFun hG 1000).trans gM_o) rfl 13 (by decide) (hT _ k_603) (fun _ h9 => h9) rfl d_M_costs_18 ?_
    refine lv_bipush (v := 40) hx hb d_M_costs_21 (by decide) ?_
    refine lv_iload_n hx hb d_M_costs_23 rfl (lv_at hl 1 rfl) ?_
    refine lv_imul hx hb d_M_costs_24 ?_
    refine lv_topi (fun x_1 ex_1 => ?_)
    refine lv_iload hx hb d_M_costs_25 (lv_at hl 4 rfl) ?_
    refine lv_iadd hx hb d_M_costs_27 ?_
    refine lv_topi (fun x_2 ex_2 => ?_)
    have hix : x_2 = nI (40 * i + k) := by rw [ex_2, ex_1, ep, show (40 : Int32) = nI 40 from rfl, pk_mul, nI_add]
    refine m_iald (v := A 13 (40 * i + k)) hx hb hC.1 hm 1013 rfl 0 ((congrFun hG 1013).trans gM_13) rfl (by rw [hix]; exact vp_in_nI (by omega) (by decide)) (by rw [hix, nI_clamp (by omega)]) d_M_costs_28 ?_
    refine lv_iload_n hx hb d_M_costs_29 rfl (lv_at hl 2 rfl) ?_
    refine lv_icmp_ge (tgt := 42) hx hb d_M_costs_30 (by decide) (fun c_30 => ?_) (fun c_30 => ?_)
    · refine lv_aload_n hx hb d_M_costs_42 rfl (lv_at hl 0 rfl) ?_
      refine m_get (v := .ref (ad 1015)) (C := R_M) (T := T_M) (N := 28) hx hb hT in_M hown hC.1 hm 1000 rfl ((congrFun hG 1000).trans gM_o) rfl 15 (by decide) (hT _ k_605) (fun _ h9 => h9) rfl d_M_costs_43 ?_
      refine lv_iload_n hx hb d_M_costs_46 rfl (lv_at hl 1 rfl) ?_
      refine m_lald (v := B 15 i) hx hb hC.1 hm 1015 rfl 1 ((congrFun hG 1015).trans gM_15) rfl (by rw [ep]; exact vp_in_nI (by omega) (by decide)) (by rw [ep, nI_clamp (by omega)]) d_M_costs_47 ?_
      refine lv_ladd hx hb d_M_costs_48 ?_
      refine lv_topl (fun x_3 ex_3 => ?_)
      obtain rfl : x_3 = eCost (fun q => A 13 (40 * i + q)) ch fa p1 (k + 1) := by
        rw [ex_3, hch]
        show _ = _ + (if _ then _ else _)
        rw [if_neg (Int32.not_lt.mpr c_30)]
      refine lv_lstore_n (lv' := [(3, .long (eCost (fun q => A 13 (40 * i + q)) ch fa p1 (k + 1))), (0, .ref (ad 1000)), (1, .int p0), (2, .int p1), (5, .int (nI k))]) hx hb d_M_costs_49 rfl hl (by decide) rfl (fun ls hl => ?_)
      refine lv_iinc (v := nI (k + 1)) (lv' := [(5, .int (nI (k + 1))), (3, .long (eCost (fun q => A 13 (40 * i + q)) ch fa p1 (k + 1))), (0, .ref (ad 1000)), (1, .int p0), (2, .int p1)]) hx hb d_M_costs_50 hl (k := 4) rfl (nI_1 _) (by decide) rfl (fun ls hl => ?_)
      refine lv_goto (tgt := 5) hx hb d_M_costs_53 (by decide) ?_
      exact ih5 (k + 1) ls H locs (⟨by omega, by omega, trivial⟩) (lv_sub hl [2, 3, 4, 1, 0] rfl) hm
    · refine lv_aload_n hx hb d_M_costs_33 rfl (lv_at hl 0 rfl) ?_
      refine m_get (v := .ref (ad 1016)) (C := R_M) (T := T_M) (N := 28) hx hb hT in_M hown hC.1 hm 1000 rfl ((congrFun hG 1000).trans gM_o) rfl 16 (by decide) (hT _ k_606) (fun _ h9 => h9) rfl d_M_costs_34 ?_
      refine lv_iload_n hx hb d_M_costs_37 rfl (lv_at hl 1 rfl) ?_
      refine m_lald (v := B 16 i) hx hb hC.1 hm 1016 rfl 1 ((congrFun hG 1016).trans gM_16) rfl (by rw [ep]; exact vp_in_nI (by omega) (by decide)) (by rw [ep, nI_clamp (by omega)]) d_M_costs_38 ?_
      refine lv_goto (tgt := 48) hx hb d_M_costs_39 (by decide) ?_
      refine lv_ladd hx hb d_M_costs_48 ?_
      refine lv_topl (fun x_4 ex_4 => ?_)
      obtain rfl : x_4 = eCost (fun q => A 13 (40 * i + q)) ch fa p1 (k + 1) := by
        rw [ex_4, hfa]
        show _ = _ + (if _ then _ else _)
        rw [if_pos (Int32.not_le.mp c_30)]
      refine lv_lstore_n (lv' := [(3, .long (eCost (fun q => A 13 (40 * i + q)) ch fa p1 (k + 1))), (0, .ref (ad 1000)), (1, .int p0), (2, .int p1), (5, .int (nI k))]) hx hb d_M_costs_49 rfl hl (by decide) rfl (fun ls hl => ?_)
      refine lv_iinc (v := nI (k + 1)) (lv' := [(5, .int (nI (k + 1))), (3, .long (eCost (fun q => A 13 (40 * i + q)) ch fa p1 (k + 1))), (0, .ref (ad 1000)), (1, .int p0), (2, .int p1)]) hx hb d_M_costs_50 hl (k := 4) rfl (nI_1 _) (by decide) rfl (fun ls hl => ?_)
      refine lv_goto (tgt := 5) hx hb d_M_costs_53 (by decide) ?_
      exact ih5 (k + 1) ls H locs (⟨by omega, by omega, trivial⟩) (lv_sub hl [2, 3, 4, 1, 0] rfl) hm

set_option maxHeartbeats 4000000 in
set_option maxRecDepth 100000 in
theorem c_M_brings (l : Launch) (D : va_G) (dA : Nat → ClassId) (ad : Nat → Nat) (G : mG) (sz : Nat) (A : Nat → Nat → Int32) (B : Nat → Nat → Int64) (S : Nat → Int32) (sd : Int64) (G0 : mG) (hG : G = gM dA ad A B S sd G0) (p0 p1 : Int32) (i kc : Nat) (hi : i < 4) (ep : p0 = nI i) (hc : kc ≤ 40) (ec : A 14 i = nI kc) : Met l y_M_brings (.code y_M_brings b_M_brings 7 (some .long) :: mBig) ({ frames := 0, cells := 0, slots := 0, locals := 0 }) (mPc [.ref (ad 1000), .int p0, .int p1] D mCl (mTys dA) mTx ad G sz) (mQl (fun (rv : Int64) (u : mU) => (rv = eUses (fun q => A 13 (40 * i + q)) p1 kc) ∧ u = (ad, G)) D mCl ad G sz) 0 0 (mA ad G sz) := by
  refine Met.ofW (cc := b_M_brings) (maxL := 7) (ret := (some .long)) (by decide) rfl ?_
  intro p e s m args below meth c s₁ BB hml hv
  obtain ⟨rfl, hsz, hw0, hC⟩ := hv
  have hx := BB.exec
  have hb := BB.bytes
  have hr := BB.returns
  have hts := atoms_spec (ws := .code y_M_brings b_M_brings 7 (some .long) :: mBig) BB.pre
  have hT : ∀ w ∈ mBig, w.before _ s = true := fun w h => hts w (List.mem_cons_of_mem _ h)
  have hown : s.vm.findClass "EdgeWearModel" = some m.cls := findClass_of_methodNamed BB.named
  have hlocks := BB.notSynchronized
  subst hsz
  have hm := mS.start hw0
  have hA : ∀ q : Nat, s.heap.size ≤ q → mA ad G s.heap.size q := fun q h => Or.inr h
  have hl := lv_entry ([.ref (ad 1000), .int p0, .int p1]) (n := 7) (Nat.le_of_ble_eq_true rfl)
  rw [lg_entry_eq]
  generalize (lg_sl ([.ref (ad 1000), .int p0, .int p1]) ++ List.replicate (7 - (lg_sl ([.ref (ad 1000), .int p0, .int p1])).length) Slot.unset).toArray = ls at hl ⊢
  have hl : lv_has ls 7 [(0, .ref (ad 1000)), (1, .int p0), (2, .int p1)] := hl
  refine lv_lconst (v := 0) hx hb d_M_brings_0 (by decide) ?_
  refine lv_lstore_n (lv' := [(3, .long 0), (0, .ref (ad 1000)), (1, .int p0), (2, .int p1)]) hx hb d_M_brings_1 rfl hl (by decide) rfl (fun ls hl => ?_)
  refine lv_iconst (v := 0) hx hb d_M_brings_2 (by decide) ?_
  refine lv_istore (lv' := [(5, .int 0), (3, .long 0), (0, .ref (ad 1000)), (1, .int p0), (2, .int p1)]) hx hb d_M_brings_3 hl (by decide) rfl (fun ls hl => ?_)
  refine m_loopH (nL := 7) (head := 5) (fun (q9 : Nat) => fun (x : Nat) => match x with | k => k + q9 = kc + 1 ∧ k ≤ kc ∧ True) (fun (x : Nat) => match x with | k => [(0, .ref (ad 1000)), (1, .int p0), (2, .int p1), (3, .long (eUses (fun q => A 13 (40 * i + q)) p1 k)), (5, .int (nI k))]) (fun _ => G) (fun k h => by have h1 := h.1; have h2 := h.2.1; omega) (fun q9 x ls H locs hI hl hm ih5 => ?_) (kc) (0) (⟨by omega, by omega, trivial⟩) (lv_sub hl [2, 3, 4, 1, 0] rfl) hm
  obtain ⟨k, ek⟩ : ∃ z, z = x := ⟨_, rfl⟩
  subst ek
  replace hI : (fun (q9 : Nat) => k + q9 = kc + 1 ∧ k ≤ kc ∧ True) (q9 + 1) := hI
  have hl : lv_has ls 7 [(0, .ref (ad 1000)), (1, .int p0), (2, .int p1), (3, .long (eUses (fun q => A 13 (40 * i + q)) p1 k)), (5, .int (nI k))] := hl
  refine lv_iload hx hb d_M_brings_5 (lv_at hl 4 rfl) ?_
  refine lv_aload_n hx hb d_M_brings_7 rfl (lv_at hl 0 rfl) ?_
  refine m_get (v := .ref (ad 1014)) (C := R_M) (T := T_M) (N := 28) hx hb hT in_M hown hC.1 hm 1000 rfl ((congrFun hG 1000).trans gM_o) rfl 14 (by decide) (hT _ k_604) (fun _ h9 => h9) rfl d_M_brings_8 ?_
  refine lv_iload_n hx hb d_M_brings_11 rfl (lv_at hl 1 rfl) ?_
  refine m_iald (v := A 14 i) hx hb hC.1 hm 1014 rfl 0 ((congrFun hG 1014).trans gM_14) rfl (by rw [ep]; exact vp_in_nI (by omega) (by decide)) (by rw [ep, nI_clamp (by omega)]) d_M_brings_12 ?_
  refine lv_icmp_ge (tgt := 52) hx hb d_M_brings_13 (by decide) (fun c_13 => ?_) (fun c_13 => ?_)
  · have hge : k = kc := by
      have h9 := c_13
      rw [ec] at h9
      have := (nI_leI (by omega) (by omega)).mp h9
      omega
    refine lv_lload_n hx hb d_M_brings_52 rfl (lv_at hl 3 rfl) ?_
    exact m_lret (v := eUses (fun q => A 13 (40 * i + q)) p1 k) hx hb hr hm (⟨by rw [hge], rfl⟩) d_M_brings_53 hlocks
  · have hk12 : k < kc := by
      have h9 := Int32.not_le.mp c_13
      rw [ec] at h9
      exact (nI_ltI (by omega) (by omega)).mp h9
    refine lv_aload_n hx hb d_M_brings_16 rfl (lv_at hl 0 rfl) ?_
    refine m_get (v := .ref (ad 1013)) (C := R_M) (T := T_M) (N := 28) hx hb hT in_M hown hC.1 hm 1000 rfl ((congrFun hG 1000).trans gM_o) rfl 13 (by decide) (hT _ k_603) (fun _ h9 => h9) rfl d_M_brings_17 ?_
    refine lv_bipush (v := 40) hx hb d_M_brings_20 (by decide) ?_
    refine lv_iload_n hx hb d_M_brings_22 rfl (lv_at hl 1 rfl) ?_
    refine lv_imul hx hb d_M_brings_23 ?_
    refine lv_topi (fun x_1 ex_1 => ?_)
    refine lv_iload hx hb d_M_brings_24 (lv_at hl 4 rfl) ?_
    refine lv_iadd hx hb d_M_brings_26 ?_
    refine lv_topi (fun x_2 ex_2 => ?_)
    have hix : x_2 = nI (40 * i + k) := by rw [ex_2, ex_1, ep, show (40 : Int32) = nI 40 from rfl, pk_mul, nI_add]
    refine m_iald (v := A 13 (40 * i + k)) hx hb hC.1 hm 1013 rfl 0 ((congrFun hG 1013).trans gM_13) rfl (by rw [hix]; exact vp_in_nI (by omega) (by decide)) (by rw [hix, nI_clamp (by omega)]) d_M_brings_27 ?_
    refine lv_istore (lv' := [(6, .int (A 13 (40 * i + k))), (0, .ref (ad 1000)), (1, .int p0), (2, .int p1), (3, .long (eUses (fun q => A 13 (40 * i + q)) p1 k)), (5, .int (nI k))]) hx hb d_M_brings_28 hl (by decide) rfl (fun ls hl => ?_)
    refine lv_lload_n hx hb d_M_brings_30 rfl (lv_at hl 4 rfl) ?_
    refine lv_iload hx hb d_M_brings_31 (lv_at hl 0 rfl) ?_
    refine lv_iload_n hx hb d_M_brings_33 rfl (lv_at hl 3 rfl) ?_
    refine lv_icmp_ge (tgt := 42) hx hb d_M_brings_34 (by decide) (fun c_34 => ?_) (fun c_34 => ?_)
    · refine lv_iload_n hx hb d_M_brings_42 rfl (lv_at hl 3 rfl) ?_
      refine lv_i2l hx hb d_M_brings_43 rfl ?_
      refine lv_topl (fun x_3 ex_3 => ?_)
      refine lv_ladd hx hb d_M_brings_44 ?_
      refine lv_topl (fun x_4 ex_4 => ?_)
      obtain rfl : x_4 = eUses (fun q => A 13 (40 * i + q)) p1 (k + 1) := by
        rw [ex_4, ex_3]
        show _ = _ + Int32.toInt64 (if p1 < A 13 (40 * i + k) then p1 else A 13 (40 * i + k))
        rw [minI c_34]
      refine lv_lstore_n (lv' := [(3, .long (eUses (fun q => A 13 (40 * i + q)) p1 (k + 1))), (6, .int (A 13 (40 * i + k))), (0, .ref (ad 1000)), (1, .int p0), (2, .int p1), (5, .int (nI k))]) hx hb d_M_brings_45 rfl hl (by decide) rfl (fun ls hl => ?_)
      refine lv_iinc (v := nI (k + 1)) (lv' := [(5, .int (nI (k + 1))), (3, .long (eUses (fun q => A 13 (40 * i + q)) p1 (k + 1))), (6, .int (A 13 (40 * i + k))), (0, .ref (ad 1000)), (1, .int p0), (2, .int p1)]) hx hb d_M_brings_46 hl (k := 5) rfl (nI_1 _) (by decide) rfl (fun ls hl => ?_)
      refine lv_goto (tgt := 5) hx hb d_M_brings_49 (by decide) ?_
      exact ih5 (k + 1) ls H locs (⟨by omega, by omega, trivial⟩) (lv_sub hl [3, 4, 5, 1, 0] rfl) hm
    · refine lv_iload hx hb d_M_brings_37 (lv_at hl 0 rfl) ?_
      refine lv_goto (tgt := 43) hx hb d_M_brings_39 (by decide) ?_
      refine lv_i2l hx hb d_M_brings_43 rfl ?_
      refine lv_topl (fun x_5 ex_5 => ?_)
      refine lv_ladd hx hb d_M_brings_44 ?_
      refine lv_topl (fun x_6 ex_6 => ?_)
      obtain rfl : x_6 = eUses (fun q => A 13 (40 * i + q)) p1 (k + 1) := by
        rw [ex_6, ex_5]
        show _ = _ + Int32.toInt64 (if p1 < A 13 (40 * i + k) then p1 else A 13 (40 * i + k))
        rw [if_neg (Int32.not_lt.mpr (Int32.le_of_lt (Int32.not_le.mp c_34)))]
      refine lv_lstore_n (lv' := [(3, .long (eUses (fun q => A 13 (40 * i + q)) p1 (k + 1))), (6, .int (A 13 (40 * i + k))), (0, .ref (ad 1000)), (1, .int p0), (2, .int p1), (5, .int (nI k))]) hx hb d_M_brings_45 rfl hl (by decide) rfl (fun ls hl => ?_)
      refine lv_iinc (v := nI (k + 1)) (lv' := [(5, .int (nI (k + 1))), (3, .long (eUses (fun q => A 13 (40 * i + q)) p1 (k + 1))), (6, .int (A 13 (40 * i + k))), (0, .ref (ad 1000)), (1, .int p0), (2, .int p1)]) hx hb d_M_brings_46 hl (k := 5) rfl (nI_1 _) (by decide) rfl (fun ls hl => ?_)
      refine lv_goto (tgt := 5) hx hb d_M_brings_49 (by decide) ?_
      exact ih5 (k + 1) ls H locs (⟨by omega, by omega, trivial⟩) (lv_sub hl [3, 4, 5, 1, 0] rfl) hm

set_option maxHeartbeats 4000000 in
set_option maxRecDepth 100000 in
theorem c_M_greatest (l : Launch) (D : va_G) (dA : Nat → ClassId) (ad : Nat → Nat) (G : mG) (sz : Nat) (A : Nat → Nat → Int32) (B : Nat → Nat → Int64) (S : Nat → Int32) (sd : Int64) (G0 : mG) (hG : G = gM dA ad A B S sd G0) (p0 : Int32) (i kc : Nat) (hi : i < 4) (ep : p0 = nI i) (hc : kc ≤ 40) (ec : A 14 i = nI kc) : Met l y_M_greatest (.code y_M_greatest b_M_greatest 5 (some .int) :: mBig) ({ frames := 0, cells := 0, slots := 0, locals := 0 }) (mPc [.ref (ad 1000), .int p0] D mCl (mTys dA) mTx ad G sz) (mQi (fun (rv : Int32) (u : mU) => (rv = eMax (fun q => A 13 (40 * i + q)) kc) ∧ u = (ad, G)) D mCl ad G sz) 0 0 (mA ad G sz) := by
  refine Met.ofW (cc := b_M_greatest) (maxL := 5) (ret := (some .int)) (by decide) rfl ?_
  intro p e s m args below meth c s₁ BB hml hv
  obtain ⟨rfl, hsz, hw0, hC⟩ := hv
  have hx := BB.exec
  have hb := BB.bytes
  have hr := BB.returns
  have hts := atoms_spec (ws := .code y_M_greatest b_M_greatest 5 (some .int) :: mBig) BB.pre
  have hT : ∀ w ∈ mBig, w.before _ s = true := fun w h => hts w (List.mem_cons_of_mem _ h)
  have hown : s.vm.findClass "EdgeWearModel" = some m.cls := findClass_of_methodNamed BB.named
  have hlocks := BB.notSynchronized
  subst hsz
  have hm := mS.start hw0
  have hA : ∀ q : Nat, s.heap.size ≤ q → mA ad G s.heap.size q := fun q h => Or.inr h
  have hl := lv_entry ([.ref (ad 1000), .int p0]) (n := 5) (Nat.le_of_ble_eq_true rfl)
  rw [lg_entry_eq]
  generalize (lg_sl ([.ref (ad 1000), .int p0]) ++ List.replicate (5 - (lg_sl ([.ref (ad 1000), .int p0])).length) Slot.unset).toArray = ls at hl ⊢
  have hl : lv_has ls 5 [(0, .ref (ad 1000)), (1, .int p0)] := hl
  refine lv_iconst (v := 0) hx hb d_M_greatest_0 (by decide) ?_
  refine lv_istore_n (lv' := [(2, .int 0), (0, .ref (ad 1000)), (1, .int p0)]) hx hb d_M_greatest_1 rfl hl (by decide) rfl (fun ls hl => ?_)
  refine lv_iconst (v := 0) hx hb d_M_greatest_2 (by decide) ?_
  refine lv_istore_n (lv' := [(3, .int 0), (2, .int 0), (0, .ref (ad 1000)), (1, .int p0)]) hx hb d_M_greatest_3 rfl hl (by decide) rfl (fun ls hl => ?_)
  refine m_loopH (nL := 5) (head := 4) (fun (q9 : Nat) => fun (x : Nat) => match x with | k => k + q9 = kc + 1 ∧ k ≤ kc ∧ True) (fun (x : Nat) => match x with | k => [(0, .ref (ad 1000)), (1, .int p0), (2, .int (eMax (fun q => A 13 (40 * i + q)) k)), (3, .int (nI k))]) (fun _ => G) (fun k h => by have h1 := h.1; have h2 := h.2.1; omega) (fun q9 x ls H locs hI hl hm ih4 => ?_) (kc) (0) (⟨by omega, by omega, trivial⟩) (lv_sub hl [2, 3, 1, 0] rfl) hm
  obtain ⟨k, ek⟩ : ∃ z, z = x := ⟨_, rfl⟩
  subst ek
  replace hI : (fun (q9 : Nat) => k + q9 = kc + 1 ∧ k ≤ kc ∧ True) (q9 + 1) := hI
  have hl : lv_has ls 5 [(0, .ref (ad 1000)), (1, .int p0), (2, .int (eMax (fun q => A 13 (40 * i + q)) k)), (3, .int (nI k))] := hl
  refine lv_iload_n hx hb d_M_greatest_4 rfl (lv_at hl 3 rfl) ?_
  refine lv_aload_n hx hb d_M_greatest_5 rfl (lv_at hl 0 rfl) ?_
  refine m_get (v := .ref (ad 1014)) (C := R_M) (T := T_M) (N := 28) hx hb hT in_M hown hC.1 hm 1000 rfl ((congrFun hG 1000).trans gM_o) rfl 14 (by decide) (hT _ k_604) (fun _ h9 => h9) rfl d_M_greatest_6 ?_
  refine lv_iload_n hx hb d_M_greatest_9 rfl (lv_at hl 1 rfl) ?_
  refine m_iald (v := A 14 i) hx hb hC.1 hm 1014 rfl 0 ((congrFun hG 1014).trans gM_14) rfl (by rw [ep]; exact vp_in_nI (by omega) (by decide)) (by rw [ep, nI_clamp (by omega)]) d_M_greatest_10 ?_
  refine lv_icmp_ge (tgt := 46) hx hb d_M_greatest_11 (by decide) (fun c_11 => ?_) (fun c_11 => ?_)
  · have hge : k = kc := by
      have h9 := c_11
      rw [ec] at h9
      have := (nI_leI (by omega) (by omega)).mp h9
      omega
    refine lv_iload_n hx hb d_M_greatest_46 rfl (lv_at hl 2 rfl) ?_
    exact m_iret (v := eMax (fun q => A 13 (40 * i + q)) k) hx hb hr hm (⟨by rw [hge], rfl⟩) d_M_greatest_47 hlocks
  · have hk12 : k < kc := by
      have h9 := Int32.not_le.mp c_11
      rw [ec] at h9
      exact (nI_ltI (by omega) (by omega)).mp h9
    refine lv_aload_n hx hb d_M_greatest_14 rfl (lv_at hl 0 rfl) ?_
    refine m_get (v := .ref (ad 1013)) (C := R_M) (T := T_M) (N := 28) hx hb hT in_M hown hC.1 hm 1000 rfl ((congrFun hG 1000).trans gM_o) rfl 13 (by decide) (hT _ k_603) (fun _ h9 => h9) rfl d_M_greatest_15 ?_
    refine lv_bipush (v := 40) hx hb d_M_greatest_18 (by decide) ?_
    refine lv_iload_n hx hb d_M_greatest_20 rfl (lv_at hl 1 rfl) ?_
    refine lv_imul hx hb d_M_greatest_21 ?_
    refine lv_topi (fun x_1 ex_1 => ?_)
    refine lv_iload_n hx hb d_M_greatest_22 rfl (lv_at hl 3 rfl) ?_
    refine lv_iadd hx hb d_M_greatest_23 ?_
    refine lv_topi (fun x_2 ex_2 => ?_)
    have hix : x_2 = nI (40 * i + k) := by rw [ex_2, ex_1, ep, show (40 : Int32) = nI 40 from rfl, pk_mul, nI_add]
    refine m_iald (v := A 13 (40 * i + k)) hx hb hC.1 hm 1013 rfl 0 ((congrFun hG 1013).trans gM_13) rfl (by rw [hix]; exact vp_in_nI (by omega) (by decide)) (by rw [hix, nI_clamp (by omega)]) d_M_greatest_24 ?_
    refine lv_istore (lv' := [(4, .int (A 13 (40 * i + k))), (0, .ref (ad 1000)), (1, .int p0), (2, .int (eMax (fun q => A 13 (40 * i + q)) k)), (3, .int (nI k))]) hx hb d_M_greatest_25 hl (by decide) rfl (fun ls hl => ?_)
    refine lv_iload hx hb d_M_greatest_27 (lv_at hl 0 rfl) ?_
    refine lv_iload_n hx hb d_M_greatest_29 rfl (lv_at hl 3 rfl) ?_
    refine lv_icmp_le (tgt := 38) hx hb d_M_greatest_30 (by decide) (fun c_30 => ?_) (fun c_30 => ?_)
    · refine lv_iload_n hx hb d_M_greatest_38 rfl (lv_at hl 3 rfl) ?_
      rw [show eMax (fun q => A 13 (40 * i + q)) k = eMax (fun q => A 13 (40 * i + q)) (k + 1) from (if_neg (Int32.not_lt.mpr c_30)).symm]
      refine lv_istore_n (lv' := [(2, .int (eMax (fun q => A 13 (40 * i + q)) (k + 1))), (4, .int (A 13 (40 * i + k))), (0, .ref (ad 1000)), (1, .int p0), (3, .int (nI k))]) hx hb d_M_greatest_39 rfl hl (by decide) rfl (fun ls hl => ?_)
      refine lv_iinc (v := nI (k + 1)) (lv' := [(3, .int (nI (k + 1))), (2, .int (eMax (fun q => A 13 (40 * i + q)) (k + 1))), (4, .int (A 13 (40 * i + k))), (0, .ref (ad 1000)), (1, .int p0)]) hx hb d_M_greatest_40 hl (k := 4) rfl (nI_1 _) (by decide) rfl (fun ls hl => ?_)
      refine lv_goto (tgt := 4) hx hb d_M_greatest_43 (by decide) ?_
      exact ih4 (k + 1) ls H locs (⟨by omega, by omega, trivial⟩) (lv_sub hl [3, 4, 1, 0] rfl) hm
    · refine lv_iload hx hb d_M_greatest_33 (lv_at hl 0 rfl) ?_
      refine lv_goto (tgt := 39) hx hb d_M_greatest_35 (by decide) ?_
      rw [show A 13 (40 * i + k) = eMax (fun q => A 13 (40 * i + q)) (k + 1) from (if_pos (Int32.not_le.mp c_30)).symm]
      refine lv_istore_n (lv' := [(2, .int (eMax (fun q => A 13 (40 * i + q)) (k + 1))), (4, .int (A 13 (40 * i + k))), (0, .ref (ad 1000)), (1, .int p0), (3, .int (nI k))]) hx hb d_M_greatest_39 rfl hl (by decide) rfl (fun ls hl => ?_)
      refine lv_iinc (v := nI (k + 1)) (lv' := [(3, .int (nI (k + 1))), (2, .int (eMax (fun q => A 13 (40 * i + q)) (k + 1))), (4, .int (A 13 (40 * i + k))), (0, .ref (ad 1000)), (1, .int p0)]) hx hb d_M_greatest_40 hl (k := 4) rfl (nI_1 _) (by decide) rfl (fun ls hl => ?_)
      refine lv_goto (tgt := 4) hx hb d_M_greatest_43 (by decide) ?_
      exact ih4 (k + 1) ls H locs (⟨by omega, by omega, trivial⟩) (lv_sub hl [3, 4, 1, 0] rfl) hm

set_option maxHeartbeats 4000000 in
set_option maxRecDepth 100000 in
theorem c_M_change (l : Launch) (D : va_G) (dA : Nat → ClassId) (ad : Nat → Nat) (G : mG) (sz : Nat) (A : Nat → Nat → Int32) (B : Nat → Nat → Int64) (S : Nat → Int32) (sd : Int64) (G0 : mG) (hG : G = gM dA ad A B S sd G0) (hL : ∀ i, i < 4 → ∃ c, c ≤ 40 ∧ A 14 i = nI c) (hV : ∀ i, i < 4 → ∀ c, c ≤ 40 → A 14 i = nI c → ∀ k, k < c → ∃ v, v ≤ 1000 ∧ A 13 (40 * i + k) = nI v) (ch fa : Nat → Int32) (hcf : ∀ i, i < 4 → B 15 i = (ch i).toInt64 ∧ B 16 i = (fa i).toInt64) (p0 : Int32) : Met l y_M_change (.code y_M_change b_M_change 4 (some .int) :: mBig) ({ frames := 1, cells := 0, slots := 0, locals := 26 }) (mPc [.ref (ad 1000), .int p0] D mCl (mTys dA) mTx ad G sz) (mQi (fun (rv : Int32) (u : mU) => ((¬ (∃ i, i < 4 ∧ p0 = nI i) ∧ u = (ad, gM dA ad A B (va_up S 0 1) sd G0)) ∨ ((∃ i, i < 4 ∧ p0 = nI i ∧ A 14 i = 0) ∧ u = (ad, gM dA ad A B (va_up S 0 2) sd G0)) ∨ (∃ i kc m, i < 4 ∧ p0 = nI i ∧ kc ≤ 40 ∧ A 14 i = nI kc ∧ 1 ≤ kc ∧ m ≤ 1000 ∧ eMax (fun q => A 13 (40 * i + q)) kc = nI m ∧ rv = nI (mBs (fun q => A 13 (40 * i + q)) (ch i) (fa i) kc (m - 1)) ∧ u = (ad, gM dA ad A B (va_up S 0 0) sd G0)))) D mCl ad G sz) 0 0 (mA ad G sz) := by
  refine Met.ofW (cc := b_M_change) (maxL := 4) (ret := (some .int)) (by decide) rfl ?_
  intro p e s m args below meth c s₁ BB hml hv
  obtain ⟨rfl, hsz, hw0, hC⟩ := hv
  have hx := BB.exec
  have hb := BB.bytes
  have hr := BB.returns
  have hts := atoms_spec (ws := .code y_M_change b_M_change 4 (some .int) :: mBig) BB.pre
  have hT : ∀ w ∈ mBig, w.before _ s = true := fun w h => hts w (List.mem_cons_of_mem _ h)
  have hown : s.vm.findClass "EdgeWearModel" = some m.cls := findClass_of_methodNamed BB.named
  have hlocks := BB.notSynchronized
  subst hsz
  have hm := mS.start hw0
  have hA : ∀ q : Nat, s.heap.size ≤ q → mA ad G s.heap.size q := fun q h => Or.inr h
  have hl := lv_entry ([.ref (ad 1000), .int p0]) (n := 4) (Nat.le_of_ble_eq_true rfl)
  rw [lg_entry_eq]
  generalize (lg_sl ([.ref (ad 1000), .int p0]) ++ List.replicate (4 - (lg_sl ([.ref (ad 1000), .int p0])).length) Slot.unset).toArray = ls at hl ⊢
  have hl : lv_has ls 4 [(0, .ref (ad 1000)), (1, .int p0)] := hl
  refine lv_aload_n hx hb d_M_change_0 rfl (lv_at hl 0 rfl) ?_
  refine lv_iload_n hx hb d_M_change_1 rfl (lv_at hl 1 rfl) ?_
  refine m_roi (m_runS (As := [.int p0]) (rest := [.ref (ad 1000)]) ⟨hx, hb, hml, hown, hts⟩ (c_M_isFour l D dA ad G s.heap.size p0) (va_cwS 1 hts (gS k_687 k_685 k_686 k_4) rfl rfl rfl (by decide +kernel) ⟨Nat.le_of_ble_eq_true rfl, Nat.le_of_ble_eq_true rfl⟩) hm hA hC rfl hl.1 rfl (Nat.le_of_ble_eq_true rfl) d_M_change_2 ⟨Nat.le_of_ble_eq_true rfl, Nat.le_of_ble_eq_true rfl⟩) hm hA (fun r_1 H locs w_2 hm => ?_)
  refine lv_if_ne (tgt := 12) hx hb d_M_change_5 (by decide) (fun c_5 => ?_) (fun c_5 => ?_)
  · obtain ⟨i, hi, epi⟩ := bv_ne w_2 c_5
    obtain ⟨kc, hkc, ekc⟩ := hL i hi
    refine lv_aload_n hx hb d_M_change_12 rfl (lv_at hl 0 rfl) ?_
    refine m_get (v := .ref (ad 1014)) (C := R_M) (T := T_M) (N := 28) hx hb hT in_M hown hC.1 hm 1000 rfl ((congrFun hG 1000).trans gM_o) rfl 14 (by decide) (hT _ k_604) (fun _ h9 => h9) rfl d_M_change_13 ?_
    refine lv_iload_n hx hb d_M_change_16 rfl (lv_at hl 1 rfl) ?_
    refine m_iald (v := A 14 i) hx hb hC.1 hm 1014 rfl 0 ((congrFun hG 1014).trans gM_14) rfl (by rw [epi]; exact vp_in_nI (by omega) (by decide)) (by rw [epi, nI_clamp (by omega)]) d_M_change_17 ?_
    refine lv_if_ne (tgt := 25) hx hb d_M_change_18 (by decide) (fun c_18 => ?_) (fun c_18 => ?_)
    · refine lv_iconst (v := 0) hx hb d_M_change_25 (by decide) ?_
      refine m_put (v := .int 0) (ty := .int) (C := R_M) (T := T_M) (N := 28) hx hb hT in_M t_M tok_M nm_M hown hC.1 hm 1000 rfl ((congrFun hG 1000).trans gM_o) rfl 0 (by decide) (hT _ k_590) (fun _ h9 => h9) rfl (by decide +kernel) rfl rfl (Nat.le_of_ble_eq_true rfl) d_M_change_26 (fun H locs hm => ?_)
      obtain ⟨G_3, eG_3⟩ : ∃ z : mG, z = va_up G 1000 (some (.inr (6, [.int 0, .long sd, .int (S 2), .ref (ad 1003), .ref (ad 1004), .ref (ad 1005), .ref (ad 1006), .ref (ad 1007), .ref (ad 1008), .ref (ad 1009), .ref (ad 1010), .ref (ad 1011), .ref (ad 1012), .ref (ad 1013), .ref (ad 1014), .ref (ad 1015), .ref (ad 1016), .int (S 17), .int (S 18), .int (S 19), .int (S 20), .ref (ad 1021), .ref (ad 1022), .ref (ad 1023), .ref (ad 1024), .ref (ad 1025), .int (S 26), .int (S 27)]))) := ⟨_, rfl⟩
      have hm : mS D mCl (mA ad G s.heap.size) s.heap ad G_3 H locs := by rw [eG_3]; exact hm
      have g_4 : G_3 1000 = some (.inr (6, [.int 0, .long sd, .int (S 2), .ref (ad 1003), .ref (ad 1004), .ref (ad 1005), .ref (ad 1006), .ref (ad 1007), .ref (ad 1008), .ref (ad 1009), .ref (ad 1010), .ref (ad 1011), .ref (ad 1012), .ref (ad 1013), .ref (ad 1014), .ref (ad 1015), .ref (ad 1016), .int (S 17), .int (S 18), .int (S 19), .int (S 20), .ref (ad 1021), .ref (ad 1022), .ref (ad 1023), .ref (ad 1024), .ref (ad 1025), .int (S 26), .int (S 27)])) := by rw [eG_3, va_up_self]
      have g_5 := (congrFun eG_3 1003).trans ((va_up_ne _ _ (by decide)).trans ((congrFun hG 1003).trans gM_3))
      have g_6 := (congrFun eG_3 1004).trans ((va_up_ne _ _ (by decide)).trans ((congrFun hG 1004).trans gM_4))
      have g_7 := (congrFun eG_3 1005).trans ((va_up_ne _ _ (by decide)).trans ((congrFun hG 1005).trans gM_5))
      have g_8 := (congrFun eG_3 1006).trans ((va_up_ne _ _ (by decide)).trans ((congrFun hG 1006).trans gM_6))
      have g_9 := (congrFun eG_3 1007).trans ((va_up_ne _ _ (by decide)).trans ((congrFun hG 1007).trans gM_7))
      have g_10 := (congrFun eG_3 1008).trans ((va_up_ne _ _ (by decide)).trans ((congrFun hG 1008).trans gM_8))
      have g_11 := (congrFun eG_3 1009).trans ((va_up_ne _ _ (by decide)).trans ((congrFun hG 1009).trans gM_9))
      have g_12 := (congrFun eG_3 1010).trans ((va_up_ne _ _ (by decide)).trans ((congrFun hG 1010).trans gM_10))
      have g_13 := (congrFun eG_3 1011).trans ((va_up_ne _ _ (by decide)).trans ((congrFun hG 1011).trans gM_11))
      have g_14 := (congrFun eG_3 1012).trans ((va_up_ne _ _ (by decide)).trans ((congrFun hG 1012).trans gM_12))
      have g_15 := (congrFun eG_3 1013).trans ((va_up_ne _ _ (by decide)).trans ((congrFun hG 1013).trans gM_13))
      have g_16 := (congrFun eG_3 1014).trans ((va_up_ne _ _ (by decide)).trans ((congrFun hG 1014).trans gM_14))
      have g_17 := (congrFun eG_3 1015).trans ((va_up_ne _ _ (by decide)).trans ((congrFun hG 1015).trans gM_15))
      have g_18 := (congrFun eG_3 1016).trans ((va_up_ne _ _ (by decide)).trans ((congrFun hG 1016).trans gM_16))
      have g_19 := (congrFun eG_3 1021).trans ((va_up_ne _ _ (by decide)).trans ((congrFun hG 1021).trans gM_21))
      have g_20 := (congrFun eG_3 1022).trans ((va_up_ne _ _ (by decide)).trans ((congrFun hG 1022).trans gM_22))
      have g_21 := (congrFun eG_3 1023).trans ((va_up_ne _ _ (by decide)).trans ((congrFun hG 1023).trans gM_23))
      have g_22 := (congrFun eG_3 1024).trans ((va_up_ne _ _ (by decide)).trans ((congrFun hG 1024).trans gM_24))
      have g_23 := (congrFun eG_3 1025).trans ((va_up_ne _ _ (by decide)).trans ((congrFun hG 1025).trans gM_25))
      have hG : G_3 = gM dA ad A B (va_up S 0 0) sd G0 := by rw [eG_3, hG]; exact gM_uo (va_up S 0 0)
      refine lv_aload_n hx hb d_M_change_29 rfl (lv_at hl 0 rfl) ?_
      refine m_get (v := .int 0) (C := R_M) (T := T_M) (N := 28) hx hb hT in_M hown hC.1 hm 1000 rfl g_4 rfl 0 (by decide) (hT _ k_590) (fun _ h9 => h9) rfl d_M_change_30 ?_
      refine lv_if_le (tgt := 38) hx hb d_M_change_33 (by decide) (fun _ => ?_) (fun c9 => absurd (by decide) c9)
      have hk1 : 1 ≤ kc := Nat.pos_of_ne_zero (fun q => c_18 (by rw [ekc, q]; rfl))
      obtain ⟨m9, hm9, em9⟩ := eMax_nI (f := (fun q => A 13 (40 * i + q))) (b := 1000) (by decide) (hV i hi kc hkc ekc)
      refine lv_iconst (v := 1) hx hb d_M_change_38 (by decide) ?_
      refine lv_istore_n (lv' := [(2, .int 1), (0, .ref (ad 1000)), (1, .int p0)]) hx hb d_M_change_39 rfl hl (by decide) rfl (fun ls hl => ?_)
      refine lv_iconst (v := 2) hx hb d_M_change_40 (by decide) ?_
      refine lv_istore_n (lv' := [(3, .int 2), (2, .int 1), (0, .ref (ad 1000)), (1, .int p0)]) hx hb d_M_change_41 rfl hl (by decide) rfl (fun ls hl => ?_)
      refine m_loopH (nL := 4) (head := 42) (fun (q9 : Nat) => fun (x : Nat) => match x with | j => j + q9 = 1001 ∧ j ≤ 1000 ∧ (j + 1 ≤ m9 ∨ j = 0)) (fun (x : Nat) => match x with | j => [(0, .ref (ad 1000)), (1, .int p0), (2, .int (nI (mBs (fun q => A 13 (40 * i + q)) (ch i) (fa i) kc j))), (3, .int (nI (j + 2)))]) (fun _ => G_3) (fun j h => by have h1 := h.1; have h2 := h.2.1; omega) (fun q9 x ls H locs hI hl hm ih42 => ?_) (1000) (0) (⟨by omega, by omega, Or.inr rfl⟩) (lv_sub hl [2, 3, 1, 0] rfl) hm
      obtain ⟨j, ej⟩ : ∃ z, z = x := ⟨_, rfl⟩
      subst ej
      replace hI : (fun (q9 : Nat) => j + q9 = 1001 ∧ j ≤ 1000 ∧ (j + 1 ≤ m9 ∨ j = 0)) (q9 + 1) := hI
      have hl : lv_has ls 4 [(0, .ref (ad 1000)), (1, .int p0), (2, .int (nI (mBs (fun q => A 13 (40 * i + q)) (ch i) (fa i) kc j))), (3, .int (nI (j + 2)))] := hl
      refine lv_iload_n hx hb d_M_change_42 rfl (lv_at hl 3 rfl) ?_
      refine lv_aload_n hx hb d_M_change_43 rfl (lv_at hl 0 rfl) ?_
      refine lv_iload_n hx hb d_M_change_44 rfl (lv_at hl 1 rfl) ?_
      refine m_roi (m_runV (As := [.int p0]) (rest := [.int (nI (j + 2))]) ⟨hx, hb, hml, hown, hts⟩ (c_M_greatest l D dA ad G_3 H.size A B (va_up S 0 0) sd G0 hG p0 i kc hi epi hkc ekc) (cwV 1 hts (gV k_755 k_752 k_754 ks_10 k_4) rfl rfl rfl (by decide +kernel) ⟨Nat.le_of_ble_eq_true rfl, Nat.le_of_ble_eq_true rfl⟩) hm hA hC 1000 rfl g_4 rfl rfl rfl hl.1 rfl (Nat.le_of_ble_eq_true rfl) d_M_change_45 ⟨Nat.le_of_ble_eq_true rfl, Nat.le_of_ble_eq_true rfl⟩) hm hA (fun r_24 H locs w_25 hm => ?_)
      refine lv_icmp_gt (tgt := 93) hx hb d_M_change_48 (by decide) (fun c_48 => ?_) (fun c_48 => ?_)
      · have hge : m9 - 1 = j := by
          have h9 := c_48
          rw [w_25, em9] at h9
          have := (nI_ltI (by omega) (by omega)).mp h9
          omega
        refine lv_iload_n hx hb d_M_change_93 rfl (lv_at hl 2 rfl) ?_
        exact m_iret (v := nI (mBs (fun q => A 13 (40 * i + q)) (ch i) (fa i) kc j)) hx hb hr hm (Or.inr (Or.inr (⟨i, kc, m9, hi, epi, hkc, ekc, hk1, hm9, em9, by rw [hge], by rw [hG]⟩))) d_M_change_94 hlocks
      · have hjm : j + 2 ≤ m9 := by
          have h9 := Int32.not_lt.mp c_48
          rw [w_25, em9] at h9
          exact (nI_leI (by omega) (by omega)).mp h9
        refine lv_aload_n hx hb d_M_change_51 rfl (lv_at hl 0 rfl) ?_
        refine lv_iload_n hx hb d_M_change_52 rfl (lv_at hl 1 rfl) ?_
        refine lv_iload_n hx hb d_M_change_53 rfl (lv_at hl 3 rfl) ?_
        refine m_rol (m_runV (As := [.int p0, .int (nI (j + 2))]) (rest := []) ⟨hx, hb, hml, hown, hts⟩ (c_M_costs l D dA ad G_3 H.size A B (va_up S 0 0) sd G0 hG p0 (nI (j + 2)) i kc hi epi hkc ekc (ch i) (fa i) (hcf i hi).1 (hcf i hi).2) (cwV 2 hts (gV k_759 k_756 k_758 ks_11 k_4) rfl rfl rfl (by decide +kernel) ⟨Nat.le_of_ble_eq_true rfl, Nat.le_of_ble_eq_true rfl⟩) hm hA hC 1000 rfl g_4 rfl rfl rfl hl.1 rfl (Nat.le_of_ble_eq_true rfl) d_M_change_54 ⟨Nat.le_of_ble_eq_true rfl, Nat.le_of_ble_eq_true rfl⟩) hm hA (fun r_26 H locs w_27 hm => ?_)
        refine lv_aload_n hx hb d_M_change_57 rfl (lv_at hl 0 rfl) ?_
        refine lv_iload_n hx hb d_M_change_58 rfl (lv_at hl 1 rfl) ?_
        refine lv_iload_n hx hb d_M_change_59 rfl (lv_at hl 2 rfl) ?_
        refine m_rol (m_runV (As := [.int p0, .int (nI (mBs (fun q => A 13 (40 * i + q)) (ch i) (fa i) kc j))]) (rest := [.long r_26]) ⟨hx, hb, hml, hown, hts⟩ (c_M_brings l D dA ad G_3 H.size A B (va_up S 0 0) sd G0 hG p0 (nI (mBs (fun q => A 13 (40 * i + q)) (ch i) (fa i) kc j)) i kc hi epi hkc ekc) (cwV 2 hts (gV k_763 k_760 k_762 ks_12 k_4) rfl rfl rfl (by decide +kernel) ⟨Nat.le_of_ble_eq_true rfl, Nat.le_of_ble_eq_true rfl⟩) hm hA hC 1000 rfl g_4 rfl rfl rfl hl.1 rfl (Nat.le_of_ble_eq_true rfl) d_M_change_60 ⟨Nat.le_of_ble_eq_true rfl, Nat.le_of_ble_eq_true rfl⟩) hm hA (fun r_28 H locs w_29 hm => ?_)
        refine lv_lmul hx hb d_M_change_63 ?_
        refine lv_topl (fun x_30 ex_30 => ?_)
        refine lv_aload_n hx hb d_M_change_64 rfl (lv_at hl 0 rfl) ?_
        refine lv_iload_n hx hb d_M_change_65 rfl (lv_at hl 1 rfl) ?_
        refine lv_iload_n hx hb d_M_change_66 rfl (lv_at hl 2 rfl) ?_
        refine m_rol (m_runV (As := [.int p0, .int (nI (mBs (fun q => A 13 (40 * i + q)) (ch i) (fa i) kc j))]) (rest := [.long x_30]) ⟨hx, hb, hml, hown, hts⟩ (c_M_costs l D dA ad G_3 H.size A B (va_up S 0 0) sd G0 hG p0 (nI (mBs (fun q => A 13 (40 * i + q)) (ch i) (fa i) kc j)) i kc hi epi hkc ekc (ch i) (fa i) (hcf i hi).1 (hcf i hi).2) (cwV 2 hts (gV k_759 k_756 k_758 ks_11 k_4) rfl rfl rfl (by decide +kernel) ⟨Nat.le_of_ble_eq_true rfl, Nat.le_of_ble_eq_true rfl⟩) hm hA hC 1000 rfl g_4 rfl rfl rfl hl.1 rfl (Nat.le_of_ble_eq_true rfl) d_M_change_67 ⟨Nat.le_of_ble_eq_true rfl, Nat.le_of_ble_eq_true rfl⟩) hm hA (fun r_31 H locs w_32 hm => ?_)
        refine lv_aload_n hx hb d_M_change_70 rfl (lv_at hl 0 rfl) ?_
        refine lv_iload_n hx hb d_M_change_71 rfl (lv_at hl 1 rfl) ?_
        refine lv_iload_n hx hb d_M_change_72 rfl (lv_at hl 3 rfl) ?_
        refine m_rol (m_runV (As := [.int p0, .int (nI (j + 2))]) (rest := [.long r_31, .long x_30]) ⟨hx, hb, hml, hown, hts⟩ (c_M_brings l D dA ad G_3 H.size A B (va_up S 0 0) sd G0 hG p0 (nI (j + 2)) i kc hi epi hkc ekc) (cwV 2 hts (gV k_763 k_760 k_762 ks_12 k_4) rfl rfl rfl (by decide +kernel) ⟨Nat.le_of_ble_eq_true rfl, Nat.le_of_ble_eq_true rfl⟩) hm hA hC 1000 rfl g_4 rfl rfl rfl hl.1 rfl (Nat.le_of_ble_eq_true rfl) d_M_change_73 ⟨Nat.le_of_ble_eq_true rfl, Nat.le_of_ble_eq_true rfl⟩) hm hA (fun r_33 H locs w_34 hm => ?_)
        refine lv_lmul hx hb d_M_change_76 ?_
        refine lv_topl (fun x_35 ex_35 => ?_)
        refine W.lcmp hx hb d_M_change_77 ?_
        refine lv_if_gt (tgt := 85) hx hb d_M_change_78 (by decide) (fun c_78 => ?_) (fun c_78 => ?_)
        · refine lv_iload_n hx hb d_M_change_85 rfl (lv_at hl 2 rfl) ?_
          rw [show nI (mBs (fun q => A 13 (40 * i + q)) (ch i) (fa i) kc j) = nI (mBs (fun q => A 13 (40 * i + q)) (ch i) (fa i) kc (j + 1)) from by rw [mBs_pos (by have h9 := (lg_gt _ _).mp c_78; rw [ex_30, ex_35, w_27, w_29, w_32, w_34] at h9; exact h9)]]
          refine lv_istore_n (lv' := [(2, .int (nI (mBs (fun q => A 13 (40 * i + q)) (ch i) (fa i) kc (j + 1)))), (0, .ref (ad 1000)), (1, .int p0), (3, .int (nI (j + 2)))]) hx hb d_M_change_86 rfl hl (by decide) rfl (fun ls hl => ?_)
          refine lv_iinc (v := nI ((j + 2) + 1)) (lv' := [(3, .int (nI ((j + 2) + 1))), (2, .int (nI (mBs (fun q => A 13 (40 * i + q)) (ch i) (fa i) kc (j + 1)))), (0, .ref (ad 1000)), (1, .int p0)]) hx hb d_M_change_87 hl (k := 3) rfl (nI_1 _) (by decide) rfl (fun ls hl => ?_)
          refine lv_goto (tgt := 42) hx hb d_M_change_90 (by decide) ?_
          exact ih42 (j + 1) ls H locs (⟨by omega, by omega, by omega⟩) (lv_sub hl [2, 3, 1, 0] rfl) hm
        · refine lv_iload_n hx hb d_M_change_81 rfl (lv_at hl 3 rfl) ?_
          refine lv_goto (tgt := 86) hx hb d_M_change_82 (by decide) ?_
          rw [show nI (j + 2) = nI (mBs (fun q => A 13 (40 * i + q)) (ch i) (fa i) kc (j + 1)) from by rw [mBs_neg (by have h9 := c_78; rw [ex_30, ex_35, w_27, w_29, w_32, w_34] at h9; exact fun q => h9 ((lg_gt _ _).mpr q))]]
          refine lv_istore_n (lv' := [(2, .int (nI (mBs (fun q => A 13 (40 * i + q)) (ch i) (fa i) kc (j + 1)))), (0, .ref (ad 1000)), (1, .int p0), (3, .int (nI (j + 2)))]) hx hb d_M_change_86 rfl hl (by decide) rfl (fun ls hl => ?_)
          refine lv_iinc (v := nI ((j + 2) + 1)) (lv' := [(3, .int (nI ((j + 2) + 1))), (2, .int (nI (mBs (fun q => A 13 (40 * i + q)) (ch i) (fa i) kc (j + 1)))), (0, .ref (ad 1000)), (1, .int p0)]) hx hb d_M_change_87 hl (k := 3) rfl (nI_1 _) (by decide) rfl (fun ls hl => ?_)
          refine lv_goto (tgt := 42) hx hb d_M_change_90 (by decide) ?_
          exact ih42 (j + 1) ls H locs (⟨by omega, by omega, by omega⟩) (lv_sub hl [2, 3, 1, 0] rfl) hm
    · refine lv_iconst (v := 2) hx hb d_M_change_21 (by decide) ?_
      refine lv_goto (tgt := 26) hx hb d_M_change_22 (by decide) ?_
      refine m_put (v := .int 2) (ty := .int) (C := R_M) (T := T_M) (N := 28) hx hb hT in_M t_M tok_M nm_M hown hC.1 hm 1000 rfl ((congrFun hG 1000).trans gM_o) rfl 0 (by decide) (hT _ k_590) (fun _ h9 => h9) rfl (by decide +kernel) rfl rfl (Nat.le_of_ble_eq_true rfl) d_M_change_26 (fun H locs hm => ?_)
      obtain ⟨G_36, eG_36⟩ : ∃ z : mG, z = va_up G 1000 (some (.inr (6, [.int 2, .long sd, .int (S 2), .ref (ad 1003), .ref (ad 1004), .ref (ad 1005), .ref (ad 1006), .ref (ad 1007), .ref (ad 1008), .ref (ad 1009), .ref (ad 1010), .ref (ad 1011), .ref (ad 1012), .ref (ad 1013), .ref (ad 1014), .ref (ad 1015), .ref (ad 1016), .int (S 17), .int (S 18), .int (S 19), .int (S 20), .ref (ad 1021), .ref (ad 1022), .ref (ad 1023), .ref (ad 1024), .ref (ad 1025), .int (S 26), .int (S 27)]))) := ⟨_, rfl⟩
      have hm : mS D mCl (mA ad G s.heap.size) s.heap ad G_36 H locs := by rw [eG_36]; exact hm
      have g_37 : G_36 1000 = some (.inr (6, [.int 2, .long sd, .int (S 2), .ref (ad 1003), .ref (ad 1004), .ref (ad 1005), .ref (ad 1006), .ref (ad 1007), .ref (ad 1008), .ref (ad 1009), .ref (ad 1010), .ref (ad 1011), .ref (ad 1012), .ref (ad 1013), .ref (ad 1014), .ref (ad 1015), .ref (ad 1016), .int (S 17), .int (S 18), .int (S 19), .int (S 20), .ref (ad 1021), .ref (ad 1022), .ref (ad 1023), .ref (ad 1024), .ref (ad 1025), .int (S 26), .int (S 27)])) := by rw [eG_36, va_up_self]
      have g_38 := (congrFun eG_36 1003).trans ((va_up_ne _ _ (by decide)).trans ((congrFun hG 1003).trans gM_3))
      have g_39 := (congrFun eG_36 1004).trans ((va_up_ne _ _ (by decide)).trans ((congrFun hG 1004).trans gM_4))
      have g_40 := (congrFun eG_36 1005).trans ((va_up_ne _ _ (by decide)).trans ((congrFun hG 1005).trans gM_5))
      have g_41 := (congrFun eG_36 1006).trans ((va_up_ne _ _ (by decide)).trans ((congrFun hG 1006).trans gM_6))
      have g_42 := (congrFun eG_36 1007).trans ((va_up_ne _ _ (by decide)).trans ((congrFun hG 1007).trans gM_7))
      have g_43 := (congrFun eG_36 1008).trans ((va_up_ne _ _ (by decide)).trans ((congrFun hG 1008).trans gM_8))
      have g_44 := (congrFun eG_36 1009).trans ((va_up_ne _ _ (by decide)).trans ((congrFun hG 1009).trans gM_9))
      have g_45 := (congrFun eG_36 1010).trans ((va_up_ne _ _ (by decide)).trans ((congrFun hG 1010).trans gM_10))
      have g_46 := (congrFun eG_36 1011).trans ((va_up_ne _ _ (by decide)).trans ((congrFun hG 1011).trans gM_11))
      have g_47 := (congrFun eG_36 1012).trans ((va_up_ne _ _ (by decide)).trans ((congrFun hG 1012).trans gM_12))
      have g_48 := (congrFun eG_36 1013).trans ((va_up_ne _ _ (by decide)).trans ((congrFun hG 1013).trans gM_13))
      have g_49 := (congrFun eG_36 1014).trans ((va_up_ne _ _ (by decide)).trans ((congrFun hG 1014).trans gM_14))
      have g_50 := (congrFun eG_36 1015).trans ((va_up_ne _ _ (by decide)).trans ((congrFun hG 1015).trans gM_15))
      have g_51 := (congrFun eG_36 1016).trans ((va_up_ne _ _ (by decide)).trans ((congrFun hG 1016).trans gM_16))
      have g_52 := (congrFun eG_36 1021).trans ((va_up_ne _ _ (by decide)).trans ((congrFun hG 1021).trans gM_21))
      have g_53 := (congrFun eG_36 1022).trans ((va_up_ne _ _ (by decide)).trans ((congrFun hG 1022).trans gM_22))
      have g_54 := (congrFun eG_36 1023).trans ((va_up_ne _ _ (by decide)).trans ((congrFun hG 1023).trans gM_23))
      have g_55 := (congrFun eG_36 1024).trans ((va_up_ne _ _ (by decide)).trans ((congrFun hG 1024).trans gM_24))
      have g_56 := (congrFun eG_36 1025).trans ((va_up_ne _ _ (by decide)).trans ((congrFun hG 1025).trans gM_25))
      have hG : G_36 = gM dA ad A B (va_up S 0 2) sd G0 := by rw [eG_36, hG]; exact gM_uo (va_up S 0 2)
      refine lv_aload_n hx hb d_M_change_29 rfl (lv_at hl 0 rfl) ?_
      refine m_get (v := .int 2) (C := R_M) (T := T_M) (N := 28) hx hb hT in_M hown hC.1 hm 1000 rfl g_37 rfl 0 (by decide) (hT _ k_590) (fun _ h9 => h9) rfl d_M_change_30 ?_
      refine lv_if_le (tgt := 38) hx hb d_M_change_33 (by decide) (fun c9 => absurd c9 (by decide)) (fun _ => ?_)
      refine lv_iconst (v := 0) hx hb d_M_change_36 (by decide) ?_
      exact m_iret (v := 0) hx hb hr hm (Or.inr (Or.inl ⟨⟨i, hi, epi, c_18⟩, by rw [hG]⟩)) d_M_change_37 hlocks
  · refine lv_iconst (v := 1) hx hb d_M_change_8 (by decide) ?_
    refine lv_goto (tgt := 26) hx hb d_M_change_9 (by decide) ?_
    refine m_put (v := .int 1) (ty := .int) (C := R_M) (T := T_M) (N := 28) hx hb hT in_M t_M tok_M nm_M hown hC.1 hm 1000 rfl ((congrFun hG 1000).trans gM_o) rfl 0 (by decide) (hT _ k_590) (fun _ h9 => h9) rfl (by decide +kernel) rfl rfl (Nat.le_of_ble_eq_true rfl) d_M_change_26 (fun H locs hm => ?_)
    obtain ⟨G_57, eG_57⟩ : ∃ z : mG, z = va_up G 1000 (some (.inr (6, [.int 1, .long sd, .int (S 2), .ref (ad 1003), .ref (ad 1004), .ref (ad 1005), .ref (ad 1006), .ref (ad 1007), .ref (ad 1008), .ref (ad 1009), .ref (ad 1010), .ref (ad 1011), .ref (ad 1012), .ref (ad 1013), .ref (ad 1014), .ref (ad 1015), .ref (ad 1016), .int (S 17), .int (S 18), .int (S 19), .int (S 20), .ref (ad 1021), .ref (ad 1022), .ref (ad 1023), .ref (ad 1024), .ref (ad 1025), .int (S 26), .int (S 27)]))) := ⟨_, rfl⟩
    have hm : mS D mCl (mA ad G s.heap.size) s.heap ad G_57 H locs := by rw [eG_57]; exact hm
    have g_58 : G_57 1000 = some (.inr (6, [.int 1, .long sd, .int (S 2), .ref (ad 1003), .ref (ad 1004), .ref (ad 1005), .ref (ad 1006), .ref (ad 1007), .ref (ad 1008), .ref (ad 1009), .ref (ad 1010), .ref (ad 1011), .ref (ad 1012), .ref (ad 1013), .ref (ad 1014), .ref (ad 1015), .ref (ad 1016), .int (S 17), .int (S 18), .int (S 19), .int (S 20), .ref (ad 1021), .ref (ad 1022), .ref (ad 1023), .ref (ad 1024), .ref (ad 1025), .int (S 26), .int (S 27)])) := by rw [eG_57, va_up_self]
    have g_59 := (congrFun eG_57 1003).trans ((va_up_ne _ _ (by decide)).trans ((congrFun hG 1003).trans gM_3))
    have g_60 := (congrFun eG_57 1004).trans ((va_up_ne _ _ (by decide)).trans ((congrFun hG 1004).trans gM_4))
    have g_61 := (congrFun eG_57 1005).trans ((va_up_ne _ _ (by decide)).trans ((congrFun hG 1005).trans gM_5))
    have g_62 := (congrFun eG_57 1006).trans ((va_up_ne _ _ (by decide)).trans ((congrFun hG 1006).trans gM_6))
    have g_63 := (congrFun eG_57 1007).trans ((va_up_ne _ _ (by decide)).trans ((congrFun hG 1007).trans gM_7))
    have g_64 := (congrFun eG_57 1008).trans ((va_up_ne _ _ (by decide)).trans ((congrFun hG 1008).trans gM_8))
    have g_65 := (congrFun eG_57 1009).trans ((va_up_ne _ _ (by decide)).trans ((congrFun hG 1009).trans gM_9))
    have g_66 := (congrFun eG_57 1010).trans ((va_up_ne _ _ (by decide)).trans ((congrFun hG 1010).trans gM_10))
    have g_67 := (congrFun eG_57 1011).trans ((va_up_ne _ _ (by decide)).trans ((congrFun hG 1011).trans gM_11))
    have g_68 := (congrFun eG_57 1012).trans ((va_up_ne _ _ (by decide)).trans ((congrFun hG 1012).trans gM_12))
    have g_69 := (congrFun eG_57 1013).trans ((va_up_ne _ _ (by decide)).trans ((congrFun hG 1013).trans gM_13))
    have g_70 := (congrFun eG_57 1014).trans ((va_up_ne _ _ (by decide)).trans ((congrFun hG 1014).trans gM_14))
    have g_71 := (congrFun eG_57 1015).trans ((va_up_ne _ _ (by decide)).trans ((congrFun hG 1015).trans gM_15))
    have g_72 := (congrFun eG_57 1016).trans ((va_up_ne _ _ (by decide)).trans ((congrFun hG 1016).trans gM_16))
    have g_73 := (congrFun eG_57 1021).trans ((va_up_ne _ _ (by decide)).trans ((congrFun hG 1021).trans gM_21))
    have g_74 := (congrFun eG_57 1022).trans ((va_up_ne _ _ (by decide)).trans ((congrFun hG 1022).trans gM_22))
    have g_75 := (congrFun eG_57 1023).trans ((va_up_ne _ _ (by decide)).trans ((congrFun hG 1023).trans gM_23))
    have g_76 := (congrFun eG_57 1024).trans ((va_up_ne _ _ (by decide)).trans ((congrFun hG 1024).trans gM_24))
    have g_77 := (congrFun eG_57 1025).trans ((va_up_ne _ _ (by decide)).trans ((congrFun hG 1025).trans gM_25))
    have hG : G_57 = gM dA ad A B (va_up S 0 1) sd G0 := by rw [eG_57, hG]; exact gM_uo (va_up S 0 1)
    refine lv_aload_n hx hb d_M_change_29 rfl (lv_at hl 0 rfl) ?_
    refine m_get (v := .int 1) (C := R_M) (T := T_M) (N := 28) hx hb hT in_M hown hC.1 hm 1000 rfl g_58 rfl 0 (by decide) (hT _ k_590) (fun _ h9 => h9) rfl d_M_change_30 ?_
    refine lv_if_le (tgt := 38) hx hb d_M_change_33 (by decide) (fun c9 => absurd c9 (by decide)) (fun _ => ?_)
    refine lv_iconst (v := 0) hx hb d_M_change_36 (by decide) ?_
    exact m_iret (v := 0) hx hb hr hm (Or.inl ⟨bv_eq w_2 c_5, by rw [hG]⟩) d_M_change_37 hlocks

set_option maxHeartbeats 4000000 in
set_option maxRecDepth 100000 in
theorem c_M_changed (l : Launch) (D : va_G) (dA : Nat → ClassId) (ad : Nat → Nat) (G : mG) (sz : Nat) (A : Nat → Nat → Int32) (B : Nat → Nat → Int64) (S : Nat → Int32) (sd : Int64) (G0 : mG) (hG : G = gM dA ad A B S sd G0) (hL : ∀ i, i < 4 → ∃ c, c ≤ 40 ∧ A 14 i = nI c) (ch fa : Nat → Int32) (hcf : ∀ i, i < 4 → B 15 i = (ch i).toInt64 ∧ B 16 i = (fa i).toInt64) (p0 p1 p2 : Int32) : Met l y_M_changed (.code y_M_changed b_M_changed 4 (some .long) :: mBig) ({ frames := 1, cells := 0, slots := 0, locals := 26 }) (mPc [.ref (ad 1000), .int p0, .int p1, .int p2] D mCl (mTys dA) mTx ad G sz) (mQl (fun (rv : Int64) (u : mU) => ((¬ ((∃ i, i < 4 ∧ p0 = nI i) ∧ (p2 = 0 ∨ p2 = 1)) ∧ u = (ad, gM dA ad A B (va_up S 0 1) sd G0)) ∨ (((∃ i, i < 4 ∧ p0 = nI i) ∧ (p2 = 0 ∨ p2 = 1)) ∧ p1 < 1 ∧ u = (ad, gM dA ad A B (va_up S 0 2) sd G0)) ∨ (((p2 = 0 ∨ p2 = 1) ∧ ¬ p1 < 1 ∧ ∃ i kc, i < 4 ∧ p0 = nI i ∧ kc ≤ 40 ∧ A 14 i = nI kc ∧ eMax (fun q => A 13 (40 * i + q)) kc < p1) ∧ u = (ad, gM dA ad A B (va_up S 0 3) sd G0)) ∨ (∃ i kc, i < 4 ∧ p0 = nI i ∧ kc ≤ 40 ∧ A 14 i = nI kc ∧ (p2 = 0 ∨ p2 = 1) ∧ ¬ p1 < 1 ∧ p1 ≤ eMax (fun q => A 13 (40 * i + q)) kc ∧ (rv = if p2 = 0 then eCost (fun q => A 13 (40 * i + q)) (ch i) (fa i) p1 kc else eUses (fun q => A 13 (40 * i + q)) p1 kc) ∧ u = (ad, gM dA ad A B (va_up S 0 0) sd G0)))) D mCl ad G sz) 0 0 (mA ad G sz) := by
  refine Met.ofW (cc := b_M_changed) (maxL := 4) (ret := (some .long)) (by decide) rfl ?_
  intro p e s m args below meth c s₁ BB hml hv
  obtain ⟨rfl, hsz, hw0, hC⟩ := hv
  have hx := BB.exec
  have hb := BB.bytes
  have hr := BB.returns
  have hts := atoms_spec (ws := .code y_M_changed b_M_changed 4 (some .long) :: mBig) BB.pre
  have hT : ∀ w ∈ mBig, w.before _ s = true := fun w h => hts w (List.mem_cons_of_mem _ h)
  have hown : s.vm.findClass "EdgeWearModel" = some m.cls := findClass_of_methodNamed BB.named
  have hlocks := BB.notSynchronized
  subst hsz
  have hm := mS.start hw0
  have hA : ∀ q : Nat, s.heap.size ≤ q → mA ad G s.heap.size q := fun q h => Or.inr h
  have hl := lv_entry ([.ref (ad 1000), .int p0, .int p1, .int p2]) (n := 4) (Nat.le_of_ble_eq_true rfl)
  rw [lg_entry_eq]
  generalize (lg_sl ([.ref (ad 1000), .int p0, .int p1, .int p2]) ++ List.replicate (4 - (lg_sl ([.ref (ad 1000), .int p0, .int p1, .int p2])).length) Slot.unset).toArray = ls at hl ⊢
  have hl : lv_has ls 4 [(0, .ref (ad 1000)), (1, .int p0), (2, .int p1), (3, .int p2)] := hl
  refine lv_aload_n hx hb d_M_changed_0 rfl (lv_at hl 0 rfl) ?_
  refine lv_iload_n hx hb d_M_changed_1 rfl (lv_at hl 1 rfl) ?_
  refine m_roi (m_runS (As := [.int p0]) (rest := [.ref (ad 1000)]) ⟨hx, hb, hml, hown, hts⟩ (c_M_isFour l D dA ad G s.heap.size p0) (va_cwS 1 hts (gS k_687 k_685 k_686 k_4) rfl rfl rfl (by decide +kernel) ⟨Nat.le_of_ble_eq_true rfl, Nat.le_of_ble_eq_true rfl⟩) hm hA hC rfl hl.1 rfl (Nat.le_of_ble_eq_true rfl) d_M_changed_2 ⟨Nat.le_of_ble_eq_true rfl, Nat.le_of_ble_eq_true rfl⟩) hm hA (fun r_1 H locs w_2 hm => ?_)
  refine lv_if_eq (tgt := 18) hx hb d_M_changed_5 (by decide) (fun c_5 => ?_) (fun c_5 => ?_)
  · refine lv_iconst (v := 1) hx hb d_M_changed_18 (by decide) ?_
    refine lv_goto (tgt := 45) hx hb d_M_changed_19 (by decide) ?_
    refine m_put (v := .int 1) (ty := .int) (C := R_M) (T := T_M) (N := 28) hx hb hT in_M t_M tok_M nm_M hown hC.1 hm 1000 rfl ((congrFun hG 1000).trans gM_o) rfl 0 (by decide) (hT _ k_590) (fun _ h9 => h9) rfl (by decide +kernel) rfl rfl (Nat.le_of_ble_eq_true rfl) d_M_changed_45 (fun H locs hm => ?_)
    obtain ⟨G_3, eG_3⟩ : ∃ z : mG, z = va_up G 1000 (some (.inr (6, [.int 1, .long sd, .int (S 2), .ref (ad 1003), .ref (ad 1004), .ref (ad 1005), .ref (ad 1006), .ref (ad 1007), .ref (ad 1008), .ref (ad 1009), .ref (ad 1010), .ref (ad 1011), .ref (ad 1012), .ref (ad 1013), .ref (ad 1014), .ref (ad 1015), .ref (ad 1016), .int (S 17), .int (S 18), .int (S 19), .int (S 20), .ref (ad 1021), .ref (ad 1022), .ref (ad 1023), .ref (ad 1024), .ref (ad 1025), .int (S 26), .int (S 27)]))) := ⟨_, rfl⟩
    have hm : mS D mCl (mA ad G s.heap.size) s.heap ad G_3 H locs := by rw [eG_3]; exact hm
    have g_4 : G_3 1000 = some (.inr (6, [.int 1, .long sd, .int (S 2), .ref (ad 1003), .ref (ad 1004), .ref (ad 1005), .ref (ad 1006), .ref (ad 1007), .ref (ad 1008), .ref (ad 1009), .ref (ad 1010), .ref (ad 1011), .ref (ad 1012), .ref (ad 1013), .ref (ad 1014), .ref (ad 1015), .ref (ad 1016), .int (S 17), .int (S 18), .int (S 19), .int (S 20), .ref (ad 1021), .ref (ad 1022), .ref (ad 1023), .ref (ad 1024), .ref (ad 1025), .int (S 26), .int (S 27)])) := by rw [eG_3, va_up_self]
    have g_5 := (congrFun eG_3 1003).trans ((va_up_ne _ _ (by decide)).trans ((congrFun hG 1003).trans gM_3))
    have g_6 := (congrFun eG_3 1004).trans ((va_up_ne _ _ (by decide)).trans ((congrFun hG 1004).trans gM_4))
    have g_7 := (congrFun eG_3 1005).trans ((va_up_ne _ _ (by decide)).trans ((congrFun hG 1005).trans gM_5))
    have g_8 := (congrFun eG_3 1006).trans ((va_up_ne _ _ (by decide)).trans ((congrFun hG 1006).trans gM_6))
    have g_9 := (congrFun eG_3 1007).trans ((va_up_ne _ _ (by decide)).trans ((congrFun hG 1007).trans gM_7))
    have g_10 := (congrFun eG_3 1008).trans ((va_up_ne _ _ (by decide)).trans ((congrFun hG 1008).trans gM_8))
    have g_11 := (congrFun eG_3 1009).trans ((va_up_ne _ _ (by decide)).trans ((congrFun hG 1009).trans gM_9))
    have g_12 := (congrFun eG_3 1010).trans ((va_up_ne _ _ (by decide)).trans ((congrFun hG 1010).trans gM_10))
    have g_13 := (congrFun eG_3 1011).trans ((va_up_ne _ _ (by decide)).trans ((congrFun hG 1011).trans gM_11))
    have g_14 := (congrFun eG_3 1012).trans ((va_up_ne _ _ (by decide)).trans ((congrFun hG 1012).trans gM_12))
    have g_15 := (congrFun eG_3 1013).trans ((va_up_ne _ _ (by decide)).trans ((congrFun hG 1013).trans gM_13))
    have g_16 := (congrFun eG_3 1014).trans ((va_up_ne _ _ (by decide)).trans ((congrFun hG 1014).trans gM_14))
    have g_17 := (congrFun eG_3 1015).trans ((va_up_ne _ _ (by decide)).trans ((congrFun hG 1015).trans gM_15))
    have g_18 := (congrFun eG_3 1016).trans ((va_up_ne _ _ (by decide)).trans ((congrFun hG 1016).trans gM_16))
    have g_19 := (congrFun eG_3 1021).trans ((va_up_ne _ _ (by decide)).trans ((congrFun hG 1021).trans gM_21))
    have g_20 := (congrFun eG_3 1022).trans ((va_up_ne _ _ (by decide)).trans ((congrFun hG 1022).trans gM_22))
    have g_21 := (congrFun eG_3 1023).trans ((va_up_ne _ _ (by decide)).trans ((congrFun hG 1023).trans gM_23))
    have g_22 := (congrFun eG_3 1024).trans ((va_up_ne _ _ (by decide)).trans ((congrFun hG 1024).trans gM_24))
    have g_23 := (congrFun eG_3 1025).trans ((va_up_ne _ _ (by decide)).trans ((congrFun hG 1025).trans gM_25))
    have hG : G_3 = gM dA ad A B (va_up S 0 1) sd G0 := by rw [eG_3, hG]; exact gM_uo (va_up S 0 1)
    refine lv_aload_n hx hb d_M_changed_48 rfl (lv_at hl 0 rfl) ?_
    refine m_get (v := .int 1) (C := R_M) (T := T_M) (N := 28) hx hb hT in_M hown hC.1 hm 1000 rfl g_4 rfl 0 (by decide) (hT _ k_590) (fun _ h9 => h9) rfl d_M_changed_49 ?_
    refine lv_if_le (tgt := 59) hx hb d_M_changed_52 (by decide) (fun c9 => absurd c9 (by decide)) (fun _ => ?_)
    refine lv_lconst (v := 0) hx hb d_M_changed_55 (by decide) ?_
    refine lv_goto (tgt := 78) hx hb d_M_changed_56 (by decide) ?_
    exact m_lret (v := 0) hx hb hr hm (Or.inl ⟨fun h => bv_eq w_2 c_5 h.1, by rw [hG]⟩) d_M_changed_78 hlocks
  · refine lv_iload_n hx hb d_M_changed_8 rfl (lv_at hl 3 rfl) ?_
    refine lv_i2l hx hb d_M_changed_9 rfl ?_
    refine lv_topl (fun x_24 ex_24 => ?_)
    refine lv_lconst (v := 0) hx hb d_M_changed_10 (by decide) ?_
    refine lv_lconst (v := 1) hx hb d_M_changed_11 (by decide) ?_
    refine m_roi (m_runS (As := [.long x_24, .long 0, .long 1]) (rest := [.ref (ad 1000)]) ⟨hx, hb, hml, hown, hts⟩ (c_M_isIn l D dA ad G H.size x_24 0 1) (va_cwS 3 hts (gS k_690 k_688 k_689 k_4) rfl rfl rfl (by decide +kernel) ⟨Nat.le_of_ble_eq_true rfl, Nat.le_of_ble_eq_true rfl⟩) hm hA hC rfl hl.1 rfl (Nat.le_of_ble_eq_true rfl) d_M_changed_12 ⟨Nat.le_of_ble_eq_true rfl, Nat.le_of_ble_eq_true rfl⟩) hm hA (fun r_25 H locs w_26 hm => ?_)
    refine lv_if_ne (tgt := 22) hx hb d_M_changed_15 (by decide) (fun c_15 => ?_) (fun c_15 => ?_)
    · obtain ⟨i, hi, epi⟩ := bv_ne w_2 c_5
      obtain ⟨kc, hkc, ekc⟩ := hL i hi
      have hpb : p2 = 0 ∨ p2 = 1 := p01.mp ((inJ (p := p2) (lo := 0) (hi := 1) (a := 0) (b := 1) (by decide) (by decide)).mp (by have h9 := bv_ne w_26 c_15; rw [ex_24] at h9; exact h9))
      refine lv_iload_n hx hb d_M_changed_22 rfl (lv_at hl 2 rfl) ?_
      refine lv_iconst (v := 1) hx hb d_M_changed_23 (by decide) ?_
      refine lv_icmp_ge (tgt := 31) hx hb d_M_changed_24 (by decide) (fun c_24 => ?_) (fun c_24 => ?_)
      · refine lv_iload_n hx hb d_M_changed_31 rfl (lv_at hl 2 rfl) ?_
        refine lv_aload_n hx hb d_M_changed_32 rfl (lv_at hl 0 rfl) ?_
        refine lv_iload_n hx hb d_M_changed_33 rfl (lv_at hl 1 rfl) ?_
        refine m_roi (m_runV (As := [.int p0]) (rest := [.int p1, .ref (ad 1000)]) ⟨hx, hb, hml, hown, hts⟩ (c_M_greatest l D dA ad G H.size A B S sd G0 hG p0 i kc hi epi hkc ekc) (cwV 1 hts (gV k_755 k_752 k_754 ks_10 k_4) rfl rfl rfl (by decide +kernel) ⟨Nat.le_of_ble_eq_true rfl, Nat.le_of_ble_eq_true rfl⟩) hm hA hC 1000 rfl ((congrFun hG 1000).trans gM_o) rfl rfl rfl hl.1 rfl (Nat.le_of_ble_eq_true rfl) d_M_changed_34 ⟨Nat.le_of_ble_eq_true rfl, Nat.le_of_ble_eq_true rfl⟩) hm hA (fun r_27 H locs w_28 hm => ?_)
        refine lv_icmp_le (tgt := 44) hx hb d_M_changed_37 (by decide) (fun c_37 => ?_) (fun c_37 => ?_)
        · refine lv_iconst (v := 0) hx hb d_M_changed_44 (by decide) ?_
          refine m_put (v := .int 0) (ty := .int) (C := R_M) (T := T_M) (N := 28) hx hb hT in_M t_M tok_M nm_M hown hC.1 hm 1000 rfl ((congrFun hG 1000).trans gM_o) rfl 0 (by decide) (hT _ k_590) (fun _ h9 => h9) rfl (by decide +kernel) rfl rfl (Nat.le_of_ble_eq_true rfl) d_M_changed_45 (fun H locs hm => ?_)
          obtain ⟨G_29, eG_29⟩ : ∃ z : mG, z = va_up G 1000 (some (.inr (6, [.int 0, .long sd, .int (S 2), .ref (ad 1003), .ref (ad 1004), .ref (ad 1005), .ref (ad 1006), .ref (ad 1007), .ref (ad 1008), .ref (ad 1009), .ref (ad 1010), .ref (ad 1011), .ref (ad 1012), .ref (ad 1013), .ref (ad 1014), .ref (ad 1015), .ref (ad 1016), .int (S 17), .int (S 18), .int (S 19), .int (S 20), .ref (ad 1021), .ref (ad 1022), .ref (ad 1023), .ref (ad 1024), .ref (ad 1025), .int (S 26), .int (S 27)]))) := ⟨_, rfl⟩
          have hm : mS D mCl (mA ad G s.heap.size) s.heap ad G_29 H locs := by rw [eG_29]; exact hm
          have g_30 : G_29 1000 = some (.inr (6, [.int 0, .long sd, .int (S 2), .ref (ad 1003), .ref (ad 1004), .ref (ad 1005), .ref (ad 1006), .ref (ad 1007), .ref (ad 1008), .ref (ad 1009), .ref (ad 1010), .ref (ad 1011), .ref (ad 1012), .ref (ad 1013), .ref (ad 1014), .ref (ad 1015), .ref (ad 1016), .int (S 17), .int (S 18), .int (S 19), .int (S 20), .ref (ad 1021), .ref (ad 1022), .ref (ad 1023), .ref (ad 1024), .ref (ad 1025), .int (S 26), .int (S 27)])) := by rw [eG_29, va_up_self]
          have g_31 := (congrFun eG_29 1003).trans ((va_up_ne _ _ (by decide)).trans ((congrFun hG 1003).trans gM_3))
          have g_32 := (congrFun eG_29 1004).trans ((va_up_ne _ _ (by decide)).trans ((congrFun hG 1004).trans gM_4))
          have g_33 := (congrFun eG_29 1005).trans ((va_up_ne _ _ (by decide)).trans ((congrFun hG 1005).trans gM_5))
          have g_34 := (congrFun eG_29 1006).trans ((va_up_ne _ _ (by decide)).trans ((congrFun hG 1006).trans gM_6))
          have g_35 := (congrFun eG_29 1007).trans ((va_up_ne _ _ (by decide)).trans ((congrFun hG 1007).trans gM_7))
          have g_36 := (congrFun eG_29 1008).trans ((va_up_ne _ _ (by decide)).trans ((congrFun hG 1008).trans gM_8))
          have g_37 := (congrFun eG_29 1009).trans ((va_up_ne _ _ (by decide)).trans ((congrFun hG 1009).trans gM_9))
          have g_38 := (congrFun eG_29 1010).trans ((va_up_ne _ _ (by decide)).trans ((congrFun hG 1010).trans gM_10))
          have g_39 := (congrFun eG_29 1011).trans ((va_up_ne _ _ (by decide)).trans ((congrFun hG 1011).trans gM_11))
          have g_40 := (congrFun eG_29 1012).trans ((va_up_ne _ _ (by decide)).trans ((congrFun hG 1012).trans gM_12))
          have g_41 := (congrFun eG_29 1013).trans ((va_up_ne _ _ (by decide)).trans ((congrFun hG 1013).trans gM_13))
          have g_42 := (congrFun eG_29 1014).trans ((va_up_ne _ _ (by decide)).trans ((congrFun hG 1014).trans gM_14))
          have g_43 := (congrFun eG_29 1015).trans ((va_up_ne _ _ (by decide)).trans ((congrFun hG 1015).trans gM_15))
          have g_44 := (congrFun eG_29 1016).trans ((va_up_ne _ _ (by decide)).trans ((congrFun hG 1016).trans gM_16))
          have g_45 := (congrFun eG_29 1021).trans ((va_up_ne _ _ (by decide)).trans ((congrFun hG 1021).trans gM_21))
          have g_46 := (congrFun eG_29 1022).trans ((va_up_ne _ _ (by decide)).trans ((congrFun hG 1022).trans gM_22))
          have g_47 := (congrFun eG_29 1023).trans ((va_up_ne _ _ (by decide)).trans ((congrFun hG 1023).trans gM_23))
          have g_48 := (congrFun eG_29 1024).trans ((va_up_ne _ _ (by decide)).trans ((congrFun hG 1024).trans gM_24))
          have g_49 := (congrFun eG_29 1025).trans ((va_up_ne _ _ (by decide)).trans ((congrFun hG 1025).trans gM_25))
          have hG : G_29 = gM dA ad A B (va_up S 0 0) sd G0 := by rw [eG_29, hG]; exact gM_uo (va_up S 0 0)
          refine lv_aload_n hx hb d_M_changed_48 rfl (lv_at hl 0 rfl) ?_
          refine m_get (v := .int 0) (C := R_M) (T := T_M) (N := 28) hx hb hT in_M hown hC.1 hm 1000 rfl g_30 rfl 0 (by decide) (hT _ k_590) (fun _ h9 => h9) rfl d_M_changed_49 ?_
          refine lv_if_le (tgt := 59) hx hb d_M_changed_52 (by decide) (fun _ => ?_) (fun c9 => absurd (by decide) c9)
          refine lv_iload_n hx hb d_M_changed_59 rfl (lv_at hl 3 rfl) ?_
          refine lv_if_ne (tgt := 72) hx hb d_M_changed_60 (by decide) (fun c_60 => ?_) (fun c_60 => ?_)
          · refine lv_aload_n hx hb d_M_changed_72 rfl (lv_at hl 0 rfl) ?_
            refine lv_iload_n hx hb d_M_changed_73 rfl (lv_at hl 1 rfl) ?_
            refine lv_iload_n hx hb d_M_changed_74 rfl (lv_at hl 2 rfl) ?_
            refine m_rol (m_runV (As := [.int p0, .int p1]) (rest := []) ⟨hx, hb, hml, hown, hts⟩ (c_M_brings l D dA ad G_29 H.size A B (va_up S 0 0) sd G0 hG p0 p1 i kc hi epi hkc ekc) (cwV 2 hts (gV k_763 k_760 k_762 ks_12 k_4) rfl rfl rfl (by decide +kernel) ⟨Nat.le_of_ble_eq_true rfl, Nat.le_of_ble_eq_true rfl⟩) hm hA hC 1000 rfl g_30 rfl rfl rfl hl.1 rfl (Nat.le_of_ble_eq_true rfl) d_M_changed_75 ⟨Nat.le_of_ble_eq_true rfl, Nat.le_of_ble_eq_true rfl⟩) hm hA (fun r_50 H locs w_51 hm => ?_)
            exact m_lret (v := r_50) hx hb hr hm (Or.inr (Or.inr (Or.inr (⟨i, kc, hi, epi, hkc, ekc, hpb, Int32.not_lt.mpr c_24, by have h9 := c_37; rw [w_28] at h9; exact h9, by rw [if_neg c_60, w_51], by rw [hG]⟩)))) d_M_changed_78 hlocks
          · refine lv_aload_n hx hb d_M_changed_63 rfl (lv_at hl 0 rfl) ?_
            refine lv_iload_n hx hb d_M_changed_64 rfl (lv_at hl 1 rfl) ?_
            refine lv_iload_n hx hb d_M_changed_65 rfl (lv_at hl 2 rfl) ?_
            refine m_rol (m_runV (As := [.int p0, .int p1]) (rest := []) ⟨hx, hb, hml, hown, hts⟩ (c_M_costs l D dA ad G_29 H.size A B (va_up S 0 0) sd G0 hG p0 p1 i kc hi epi hkc ekc (ch i) (fa i) (hcf i hi).1 (hcf i hi).2) (cwV 2 hts (gV k_759 k_756 k_758 ks_11 k_4) rfl rfl rfl (by decide +kernel) ⟨Nat.le_of_ble_eq_true rfl, Nat.le_of_ble_eq_true rfl⟩) hm hA hC 1000 rfl g_30 rfl rfl rfl hl.1 rfl (Nat.le_of_ble_eq_true rfl) d_M_changed_66 ⟨Nat.le_of_ble_eq_true rfl, Nat.le_of_ble_eq_true rfl⟩) hm hA (fun r_52 H locs w_53 hm => ?_)
            refine lv_goto (tgt := 78) hx hb d_M_changed_69 (by decide) ?_
            exact m_lret (v := r_52) hx hb hr hm (Or.inr (Or.inr (Or.inr (⟨i, kc, hi, epi, hkc, ekc, hpb, Int32.not_lt.mpr c_24, by have h9 := c_37; rw [w_28] at h9; exact h9, by rw [if_pos c_60, w_53], by rw [hG]⟩)))) d_M_changed_78 hlocks
        · refine lv_iconst (v := 3) hx hb d_M_changed_40 (by decide) ?_
          refine lv_goto (tgt := 45) hx hb d_M_changed_41 (by decide) ?_
          refine m_put (v := .int 3) (ty := .int) (C := R_M) (T := T_M) (N := 28) hx hb hT in_M t_M tok_M nm_M hown hC.1 hm 1000 rfl ((congrFun hG 1000).trans gM_o) rfl 0 (by decide) (hT _ k_590) (fun _ h9 => h9) rfl (by decide +kernel) rfl rfl (Nat.le_of_ble_eq_true rfl) d_M_changed_45 (fun H locs hm => ?_)
          obtain ⟨G_54, eG_54⟩ : ∃ z : mG, z = va_up G 1000 (some (.inr (6, [.int 3, .long sd, .int (S 2), .ref (ad 1003), .ref (ad 1004), .ref (ad 1005), .ref (ad 1006), .ref (ad 1007), .ref (ad 1008), .ref (ad 1009), .ref (ad 1010), .ref (ad 1011), .ref (ad 1012), .ref (ad 1013), .ref (ad 1014), .ref (ad 1015), .ref (ad 1016), .int (S 17), .int (S 18), .int (S 19), .int (S 20), .ref (ad 1021), .ref (ad 1022), .ref (ad 1023), .ref (ad 1024), .ref (ad 1025), .int (S 26), .int (S 27)]))) := ⟨_, rfl⟩
          have hm : mS D mCl (mA ad G s.heap.size) s.heap ad G_54 H locs := by rw [eG_54]; exact hm
          have g_55 : G_54 1000 = some (.inr (6, [.int 3, .long sd, .int (S 2), .ref (ad 1003), .ref (ad 1004), .ref (ad 1005), .ref (ad 1006), .ref (ad 1007), .ref (ad 1008), .ref (ad 1009), .ref (ad 1010), .ref (ad 1011), .ref (ad 1012), .ref (ad 1013), .ref (ad 1014), .ref (ad 1015), .ref (ad 1016), .int (S 17), .int (S 18), .int (S 19), .int (S 20), .ref (ad 1021), .ref (ad 1022), .ref (ad 1023), .ref (ad 1024), .ref (ad 1025), .int (S 26), .int (S 27)])) := by rw [eG_54, va_up_self]
          have g_56 := (congrFun eG_54 1003).trans ((va_up_ne _ _ (by decide)).trans ((congrFun hG 1003).trans gM_3))
          have g_57 := (congrFun eG_54 1004).trans ((va_up_ne _ _ (by decide)).trans ((congrFun hG 1004).trans gM_4))
          have g_58 := (congrFun eG_54 1005).trans ((va_up_ne _ _ (by decide)).trans ((congrFun hG 1005).trans gM_5))
          have g_59 := (congrFun eG_54 1006).trans ((va_up_ne _ _ (by decide)).trans ((congrFun hG 1006).trans gM_6))
          have g_60 := (congrFun eG_54 1007).trans ((va_up_ne _ _ (by decide)).trans ((congrFun hG 1007).trans gM_7))
          have g_61 := (congrFun eG_54 1008).trans ((va_up_ne _ _ (by decide)).trans ((congrFun hG 1008).trans gM_8))
          have g_62 := (congrFun eG_54 1009).trans ((va_up_ne _ _ (by decide)).trans ((congrFun hG 1009).trans gM_9))
          have g_63 := (congrFun eG_54 1010).trans ((va_up_ne _ _ (by decide)).trans ((congrFun hG 1010).trans gM_10))
          have g_64 := (congrFun eG_54 1011).trans ((va_up_ne _ _ (by decide)).trans ((congrFun hG 1011).trans gM_11))
          have g_65 := (congrFun eG_54 1012).trans ((va_up_ne _ _ (by decide)).trans ((congrFun hG 1012).trans gM_12))
          have g_66 := (congrFun eG_54 1013).trans ((va_up_ne _ _ (by decide)).trans ((congrFun hG 1013).trans gM_13))
          have g_67 := (congrFun eG_54 1014).trans ((va_up_ne _ _ (by decide)).trans ((congrFun hG 1014).trans gM_14))
          have g_68 := (congrFun eG_54 1015).trans ((va_up_ne _ _ (by decide)).trans ((congrFun hG 1015).trans gM_15))
          have g_69 := (congrFun eG_54 1016).trans ((va_up_ne _ _ (by decide)).trans ((congrFun hG 1016).trans gM_16))
          have g_70 := (congrFun eG_54 1021).trans ((va_up_ne _ _ (by decide)).trans ((congrFun hG 1021).trans gM_21))
          have g_71 := (congrFun eG_54 1022).trans ((va_up_ne _ _ (by decide)).trans ((congrFun hG 1022).trans gM_22))
          have g_72 := (congrFun eG_54 1023).trans ((va_up_ne _ _ (by decide)).trans ((congrFun hG 1023).trans gM_23))
          have g_73 := (congrFun eG_54 1024).trans ((va_up_ne _ _ (by decide)).trans ((congrFun hG 1024).trans gM_24))
          have g_74 := (congrFun eG_54 1025).trans ((va_up_ne _ _ (by decide)).trans ((congrFun hG 1025).trans gM_25))
          have hG : G_54 = gM dA ad A B (va_up S 0 3) sd G0 := by rw [eG_54, hG]; exact gM_uo (va_up S 0 3)
          refine lv_aload_n hx hb d_M_changed_48 rfl (lv_at hl 0 rfl) ?_
          refine m_get (v := .int 3) (C := R_M) (T := T_M) (N := 28) hx hb hT in_M hown hC.1 hm 1000 rfl g_55 rfl 0 (by decide) (hT _ k_590) (fun _ h9 => h9) rfl d_M_changed_49 ?_
          refine lv_if_le (tgt := 59) hx hb d_M_changed_52 (by decide) (fun c9 => absurd c9 (by decide)) (fun _ => ?_)
          refine lv_lconst (v := 0) hx hb d_M_changed_55 (by decide) ?_
          refine lv_goto (tgt := 78) hx hb d_M_changed_56 (by decide) ?_
          exact m_lret (v := 0) hx hb hr hm (Or.inr (Or.inr (Or.inl ⟨⟨hpb, Int32.not_lt.mpr c_24, i, kc, hi, epi, hkc, ekc, by have h9 := Int32.not_le.mp c_37; rw [w_28] at h9; exact h9⟩, by rw [hG]⟩))) d_M_changed_78 hlocks
      · refine lv_iconst (v := 2) hx hb d_M_changed_27 (by decide) ?_
        refine lv_goto (tgt := 45) hx hb d_M_changed_28 (by decide) ?_
        refine m_put (v := .int 2) (ty := .int) (C := R_M) (T := T_M) (N := 28) hx hb hT in_M t_M tok_M nm_M hown hC.1 hm 1000 rfl ((congrFun hG 1000).trans gM_o) rfl 0 (by decide) (hT _ k_590) (fun _ h9 => h9) rfl (by decide +kernel) rfl rfl (Nat.le_of_ble_eq_true rfl) d_M_changed_45 (fun H locs hm => ?_)
        obtain ⟨G_75, eG_75⟩ : ∃ z : mG, z = va_up G 1000 (some (.inr (6, [.int 2, .long sd, .int (S 2), .ref (ad 1003), .ref (ad 1004), .ref (ad 1005), .ref (ad 1006), .ref (ad 1007), .ref (ad 1008), .ref (ad 1009), .ref (ad 1010), .ref (ad 1011), .ref (ad 1012), .ref (ad 1013), .ref (ad 1014), .ref (ad 1015), .ref (ad 1016), .int (S 17), .int (S 18), .int (S 19), .int (S 20), .ref (ad 1021), .ref (ad 1022), .ref (ad 1023), .ref (ad 1024), .ref (ad 1025), .int (S 26), .int (S 27)]))) := ⟨_, rfl⟩
        have hm : mS D mCl (mA ad G s.heap.size) s.heap ad G_75 H locs := by rw [eG_75]; exact hm
        have g_76 : G_75 1000 = some (.inr (6, [.int 2, .long sd, .int (S 2), .ref (ad 1003), .ref (ad 1004), .ref (ad 1005), .ref (ad 1006), .ref (ad 1007), .ref (ad 1008), .ref (ad 1009), .ref (ad 1010), .ref (ad 1011), .ref (ad 1012), .ref (ad 1013), .ref (ad 1014), .ref (ad 1015), .ref (ad 1016), .int (S 17), .int (S 18), .int (S 19), .int (S 20), .ref (ad 1021), .ref (ad 1022), .ref (ad 1023), .ref (ad 1024), .ref (ad 1025), .int (S 26), .int (S 27)])) := by rw [eG_75, va_up_self]
        have g_77 := (congrFun eG_75 1003).trans ((va_up_ne _ _ (by decide)).trans ((congrFun hG 1003).trans gM_3))
        have g_78 := (congrFun eG_75 1004).trans ((va_up_ne _ _ (by decide)).trans ((congrFun hG 1004).trans gM_4))
        have g_79 := (congrFun eG_75 1005).trans ((va_up_ne _ _ (by decide)).trans ((congrFun hG 1005).trans gM_5))
        have g_80 := (congrFun eG_75 1006).trans ((va_up_ne _ _ (by decide)).trans ((congrFun hG 1006).trans gM_6))
        have g_81 := (congrFun eG_75 1007).trans ((va_up_ne _ _ (by decide)).trans ((congrFun hG 1007).trans gM_7))
        have g_82 := (congrFun eG_75 1008).trans ((va_up_ne _ _ (by decide)).trans ((congrFun hG 1008).trans gM_8))
        have g_83 := (congrFun eG_75 1009).trans ((va_up_ne _ _ (by decide)).trans ((congrFun hG 1009).trans gM_9))
        have g_84 := (congrFun eG_75 1010).trans ((va_up_ne _ _ (by decide)).trans ((congrFun hG 1010).trans gM_10))
        have g_85 := (congrFun eG_75 1011).trans ((va_up_ne _ _ (by decide)).trans ((congrFun hG 1011).trans gM_11))
        have g_86 := (congrFun eG_75 1012).trans ((va_up_ne _ _ (by decide)).trans ((congrFun hG 1012).trans gM_12))
        have g_87 := (congrFun eG_75 1013).trans ((va_up_ne _ _ (by decide)).trans ((congrFun hG 1013).trans gM_13))
        have g_88 := (congrFun eG_75 1014).trans ((va_up_ne _ _ (by decide)).trans ((congrFun hG 1014).trans gM_14))
        have g_89 := (congrFun eG_75 1015).trans ((va_up_ne _ _ (by decide)).trans ((congrFun hG 1015).trans gM_15))
        have g_90 := (congrFun eG_75 1016).trans ((va_up_ne _ _ (by decide)).trans ((congrFun hG 1016).trans gM_16))
        have g_91 := (congrFun eG_75 1021).trans ((va_up_ne _ _ (by decide)).trans ((congrFun hG 1021).trans gM_21))
        have g_92 := (congrFun eG_75 1022).trans ((va_up_ne _ _ (by decide)).trans ((congrFun hG 1022).trans gM_22))
        have g_93 := (congrFun eG_75 1023).trans ((va_up_ne _ _ (by decide)).trans ((congrFun hG 1023).trans gM_23))
        have g_94 := (congrFun eG_75 1024).trans ((va_up_ne _ _ (by decide)).trans ((congrFun hG 1024).trans gM_24))
        have g_95 := (congrFun eG_75 1025).trans ((va_up_ne _ _ (by decide)).trans ((congrFun hG 1025).trans gM_25))
        have hG : G_75 = gM dA ad A B (va_up S 0 2) sd G0 := by rw [eG_75, hG]; exact gM_uo (va_up S 0 2)
        refine lv_aload_n hx hb d_M_changed_48 rfl (lv_at hl 0 rfl) ?_
        refine m_get (v := .int 2) (C := R_M) (T := T_M) (N := 28) hx hb hT in_M hown hC.1 hm 1000 rfl g_76 rfl 0 (by decide) (hT _ k_590) (fun _ h9 => h9) rfl d_M_changed_49 ?_
        refine lv_if_le (tgt := 59) hx hb d_M_changed_52 (by decide) (fun c9 => absurd c9 (by decide)) (fun _ => ?_)
        refine lv_lconst (v := 0) hx hb d_M_changed_55 (by decide) ?_
        refine lv_goto (tgt := 78) hx hb d_M_changed_56 (by decide) ?_
        exact m_lret (v := 0) hx hb hr hm (Or.inr (Or.inl ⟨⟨⟨i, hi, epi⟩, hpb⟩, Int32.not_le.mp c_24, by rw [hG]⟩)) d_M_changed_78 hlocks
    · refine lv_iconst (v := 1) hx hb d_M_changed_18 (by decide) ?_
      refine lv_goto (tgt := 45) hx hb d_M_changed_19 (by decide) ?_
      refine m_put (v := .int 1) (ty := .int) (C := R_M) (T := T_M) (N := 28) hx hb hT in_M t_M tok_M nm_M hown hC.1 hm 1000 rfl ((congrFun hG 1000).trans gM_o) rfl 0 (by decide) (hT _ k_590) (fun _ h9 => h9) rfl (by decide +kernel) rfl rfl (Nat.le_of_ble_eq_true rfl) d_M_changed_45 (fun H locs hm => ?_)
      obtain ⟨G_96, eG_96⟩ : ∃ z : mG, z = va_up G 1000 (some (.inr (6, [.int 1, .long sd, .int (S 2), .ref (ad 1003), .ref (ad 1004), .ref (ad 1005), .ref (ad 1006), .ref (ad 1007), .ref (ad 1008), .ref (ad 1009), .ref (ad 1010), .ref (ad 1011), .ref (ad 1012), .ref (ad 1013), .ref (ad 1014), .ref (ad 1015), .ref (ad 1016), .int (S 17), .int (S 18), .int (S 19), .int (S 20), .ref (ad 1021), .ref (ad 1022), .ref (ad 1023), .ref (ad 1024), .ref (ad 1025), .int (S 26), .int (S 27)]))) := ⟨_, rfl⟩
      have hm : mS D mCl (mA ad G s.heap.size) s.heap ad G_96 H locs := by rw [eG_96]; exact hm
      have g_97 : G_96 1000 = some (.inr (6, [.int 1, .long sd, .int (S 2), .ref (ad 1003), .ref (ad 1004), .ref (ad 1005), .ref (ad 1006), .ref (ad 1007), .ref (ad 1008), .ref (ad 1009), .ref (ad 1010), .ref (ad 1011), .ref (ad 1012), .ref (ad 1013), .ref (ad 1014), .ref (ad 1015), .ref (ad 1016), .int (S 17), .int (S 18), .int (S 19), .int (S 20), .ref (ad 1021), .ref (ad 1022), .ref (ad 1023), .ref (ad 1024), .ref (ad 1025), .int (S 26), .int (S 27)])) := by rw [eG_96, va_up_self]
      have g_98 := (congrFun eG_96 1003).trans ((va_up_ne _ _ (by decide)).trans ((congrFun hG 1003).trans gM_3))
      have g_99 := (congrFun eG_96 1004).trans ((va_up_ne _ _ (by decide)).trans ((congrFun hG 1004).trans gM_4))
      have g_100 := (congrFun eG_96 1005).trans ((va_up_ne _ _ (by decide)).trans ((congrFun hG 1005).trans gM_5))
      have g_101 := (congrFun eG_96 1006).trans ((va_up_ne _ _ (by decide)).trans ((congrFun hG 1006).trans gM_6))
      have g_102 := (congrFun eG_96 1007).trans ((va_up_ne _ _ (by decide)).trans ((congrFun hG 1007).trans gM_7))
      have g_103 := (congrFun eG_96 1008).trans ((va_up_ne _ _ (by decide)).trans ((congrFun hG 1008).trans gM_8))
      have g_104 := (congrFun eG_96 1009).trans ((va_up_ne _ _ (by decide)).trans ((congrFun hG 1009).trans gM_9))
      have g_105 := (congrFun eG_96 1010).trans ((va_up_ne _ _ (by decide)).trans ((congrFun hG 1010).trans gM_10))
      have g_106 := (congrFun eG_96 1011).trans ((va_up_ne _ _ (by decide)).trans ((congrFun hG 1011).trans gM_11))
      have g_107 := (congrFun eG_96 1012).trans ((va_up_ne _ _ (by decide)).trans ((congrFun hG 1012).trans gM_12))
      have g_108 := (congrFun eG_96 1013).trans ((va_up_ne _ _ (by decide)).trans ((congrFun hG 1013).trans gM_13))
      have g_109 := (congrFun eG_96 1014).trans ((va_up_ne _ _ (by decide)).trans ((congrFun hG 1014).trans gM_14))
      have g_110 := (congrFun eG_96 1015).trans ((va_up_ne _ _ (by decide)).trans ((congrFun hG 1015).trans gM_15))
      have g_111 := (congrFun eG_96 1016).trans ((va_up_ne _ _ (by decide)).trans ((congrFun hG 1016).trans gM_16))
      have g_112 := (congrFun eG_96 1021).trans ((va_up_ne _ _ (by decide)).trans ((congrFun hG 1021).trans gM_21))
      have g_113 := (congrFun eG_96 1022).trans ((va_up_ne _ _ (by decide)).trans ((congrFun hG 1022).trans gM_22))
      have g_114 := (congrFun eG_96 1023).trans ((va_up_ne _ _ (by decide)).trans ((congrFun hG 1023).trans gM_23))
      have g_115 := (congrFun eG_96 1024).trans ((va_up_ne _ _ (by decide)).trans ((congrFun hG 1024).trans gM_24))
      have g_116 := (congrFun eG_96 1025).trans ((va_up_ne _ _ (by decide)).trans ((congrFun hG 1025).trans gM_25))
      have hG : G_96 = gM dA ad A B (va_up S 0 1) sd G0 := by rw [eG_96, hG]; exact gM_uo (va_up S 0 1)
      refine lv_aload_n hx hb d_M_changed_48 rfl (lv_at hl 0 rfl) ?_
      refine m_get (v := .int 1) (C := R_M) (T := T_M) (N := 28) hx hb hT in_M hown hC.1 hm 1000 rfl g_97 rfl 0 (by decide) (hT _ k_590) (fun _ h9 => h9) rfl d_M_changed_49 ?_
      refine lv_if_le (tgt := 59) hx hb d_M_changed_52 (by decide) (fun c9 => absurd c9 (by decide)) (fun _ => ?_)
      refine lv_lconst (v := 0) hx hb d_M_changed_55 (by decide) ?_
      refine lv_goto (tgt := 78) hx hb d_M_changed_56 (by decide) ?_
      exact m_lret (v := 0) hx hb hr hm (Or.inl ⟨fun h => p01.mpr h.2 (Classical.not_not.mp (fun q => bv_eq w_26 c_15 (by rw [ex_24]; exact (inJ (p := p2) (lo := 0) (hi := 1) (a := 0) (b := 1) (by decide) (by decide)).mpr q))), by rw [hG]⟩) d_M_changed_78 hlocks

set_option maxHeartbeats 4000000 in
set_option maxRecDepth 100000 in
theorem c_M_breaks (l : Launch) (D : va_G) (dA : Nat → ClassId) (ad : Nat → Nat) (G : mG) (sz : Nat) (A : Nat → Nat → Int32) (B : Nat → Nat → Int64) (S : Nat → Int32) (sd : Int64) (G0 : mG) (hG : G = gM dA ad A B S sd G0) (hL : ∀ i, i < 4 → ∃ c, c ≤ 40 ∧ A 14 i = nI c) (p0 p1 : Int32) : Met l y_M_breaks (.code y_M_breaks b_M_breaks 5 (some .int) :: mBig) ({ frames := 1, cells := 0, slots := 0, locals := 20 }) (mPc [.ref (ad 1000), .int p0, .int p1] D mCl (mTys dA) mTx ad G sz) (mQi (fun (rv : Int32) (u : mU) => ((¬ (∃ i, i < 4 ∧ p0 = nI i) ∧ u = (ad, gM dA ad A B (va_up S 0 1) sd G0)) ∨ ((∃ i, i < 4 ∧ p0 = nI i) ∧ p1 < 0 ∧ u = (ad, gM dA ad A B (va_up S 0 2) sd G0)) ∨ ((∃ i, i < 4 ∧ p0 = nI i ∧ A 14 i = 0) ∧ ¬ p1 < 0 ∧ u = (ad, gM dA ad A B (va_up S 0 3) sd G0)) ∨ (∃ i kc, i < 4 ∧ p0 = nI i ∧ kc ≤ 40 ∧ A 14 i = nI kc ∧ 1 ≤ kc ∧ ¬ p1 < 0 ∧ rv = A 13 (40 * i + eIx (eMix sd p0 p1) kc) ∧ u = (ad, gM dA ad A B (va_up S 0 0) sd G0)))) D mCl ad G sz) 0 0 (mA ad G sz) := by
  refine Met.ofW (cc := b_M_breaks) (maxL := 5) (ret := (some .int)) (by decide) rfl ?_
  intro p e s m args below meth c s₁ BB hml hv
  obtain ⟨rfl, hsz, hw0, hC⟩ := hv
  have hx := BB.exec
  have hb := BB.bytes
  have hr := BB.returns
  have hts := atoms_spec (ws := .code y_M_breaks b_M_breaks 5 (some .int) :: mBig) BB.pre
  have hT : ∀ w ∈ mBig, w.before _ s = true := fun w h => hts w (List.mem_cons_of_mem _ h)
  have hown : s.vm.findClass "EdgeWearModel" = some m.cls := findClass_of_methodNamed BB.named
  have hlocks := BB.notSynchronized
  subst hsz
  have hm := mS.start hw0
  have hA : ∀ q : Nat, s.heap.size ≤ q → mA ad G s.heap.size q := fun q h => Or.inr h
  have hl := lv_entry ([.ref (ad 1000), .int p0, .int p1]) (n := 5) (Nat.le_of_ble_eq_true rfl)
  rw [lg_entry_eq]
  generalize (lg_sl ([.ref (ad 1000), .int p0, .int p1]) ++ List.replicate (5 - (lg_sl ([.ref (ad 1000), .int p0, .int p1])).length) Slot.unset).toArray = ls at hl ⊢
  have hl : lv_has ls 5 [(0, .ref (ad 1000)), (1, .int p0), (2, .int p1)] := hl
  refine lv_aload_n hx hb d_M_breaks_0 rfl (lv_at hl 0 rfl) ?_
  refine lv_iload_n hx hb d_M_breaks_1 rfl (lv_at hl 1 rfl) ?_
  refine m_roi (m_runS (As := [.int p0]) (rest := [.ref (ad 1000)]) ⟨hx, hb, hml, hown, hts⟩ (c_M_isFour l D dA ad G s.heap.size p0) (va_cwS 1 hts (gS k_687 k_685 k_686 k_4) rfl rfl rfl (by decide +kernel) ⟨Nat.le_of_ble_eq_true rfl, Nat.le_of_ble_eq_true rfl⟩) hm hA hC rfl hl.1 rfl (Nat.le_of_ble_eq_true rfl) d_M_breaks_2 ⟨Nat.le_of_ble_eq_true rfl, Nat.le_of_ble_eq_true rfl⟩) hm hA (fun r_1 H locs w_2 hm => ?_)
  refine lv_if_ne (tgt := 12) hx hb d_M_breaks_5 (by decide) (fun c_5 => ?_) (fun c_5 => ?_)
  · obtain ⟨i, hi, epi⟩ := bv_ne w_2 c_5
    obtain ⟨kc, hkc, ekc⟩ := hL i hi
    refine lv_iload_n hx hb d_M_breaks_12 rfl (lv_at hl 2 rfl) ?_
    refine lv_if_ge (tgt := 20) hx hb d_M_breaks_13 (by decide) (fun c_13 => ?_) (fun c_13 => ?_)
    · refine lv_aload_n hx hb d_M_breaks_20 rfl (lv_at hl 0 rfl) ?_
      refine m_get (v := .ref (ad 1014)) (C := R_M) (T := T_M) (N := 28) hx hb hT in_M hown hC.1 hm 1000 rfl ((congrFun hG 1000).trans gM_o) rfl 14 (by decide) (hT _ k_604) (fun _ h9 => h9) rfl d_M_breaks_21 ?_
      refine lv_iload_n hx hb d_M_breaks_24 rfl (lv_at hl 1 rfl) ?_
      refine m_iald (v := A 14 i) hx hb hC.1 hm 1014 rfl 0 ((congrFun hG 1014).trans gM_14) rfl (by rw [epi]; exact vp_in_nI (by omega) (by decide)) (by rw [epi, nI_clamp (by omega)]) d_M_breaks_25 ?_
      refine lv_if_ne (tgt := 33) hx hb d_M_breaks_26 (by decide) (fun c_26 => ?_) (fun c_26 => ?_)
      · refine lv_iconst (v := 0) hx hb d_M_breaks_33 (by decide) ?_
        refine m_put (v := .int 0) (ty := .int) (C := R_M) (T := T_M) (N := 28) hx hb hT in_M t_M tok_M nm_M hown hC.1 hm 1000 rfl ((congrFun hG 1000).trans gM_o) rfl 0 (by decide) (hT _ k_590) (fun _ h9 => h9) rfl (by decide +kernel) rfl rfl (Nat.le_of_ble_eq_true rfl) d_M_breaks_34 (fun H locs hm => ?_)
        obtain ⟨G_3, eG_3⟩ : ∃ z : mG, z = va_up G 1000 (some (.inr (6, [.int 0, .long sd, .int (S 2), .ref (ad 1003), .ref (ad 1004), .ref (ad 1005), .ref (ad 1006), .ref (ad 1007), .ref (ad 1008), .ref (ad 1009), .ref (ad 1010), .ref (ad 1011), .ref (ad 1012), .ref (ad 1013), .ref (ad 1014), .ref (ad 1015), .ref (ad 1016), .int (S 17), .int (S 18), .int (S 19), .int (S 20), .ref (ad 1021), .ref (ad 1022), .ref (ad 1023), .ref (ad 1024), .ref (ad 1025), .int (S 26), .int (S 27)]))) := ⟨_, rfl⟩
        have hm : mS D mCl (mA ad G s.heap.size) s.heap ad G_3 H locs := by rw [eG_3]; exact hm
        have g_4 : G_3 1000 = some (.inr (6, [.int 0, .long sd, .int (S 2), .ref (ad 1003), .ref (ad 1004), .ref (ad 1005), .ref (ad 1006), .ref (ad 1007), .ref (ad 1008), .ref (ad 1009), .ref (ad 1010), .ref (ad 1011), .ref (ad 1012), .ref (ad 1013), .ref (ad 1014), .ref (ad 1015), .ref (ad 1016), .int (S 17), .int (S 18), .int (S 19), .int (S 20), .ref (ad 1021), .ref (ad 1022), .ref (ad 1023), .ref (ad 1024), .ref (ad 1025), .int (S 26), .int (S 27)])) := by rw [eG_3, va_up_self]
        have g_5 := (congrFun eG_3 1003).trans ((va_up_ne _ _ (by decide)).trans ((congrFun hG 1003).trans gM_3))
        have g_6 := (congrFun eG_3 1004).trans ((va_up_ne _ _ (by decide)).trans ((congrFun hG 1004).trans gM_4))
        have g_7 := (congrFun eG_3 1005).trans ((va_up_ne _ _ (by decide)).trans ((congrFun hG 1005).trans gM_5))
        have g_8 := (congrFun eG_3 1006).trans ((va_up_ne _ _ (by decide)).trans ((congrFun hG 1006).trans gM_6))
        have g_9 := (congrFun eG_3 1007).trans ((va_up_ne _ _ (by decide)).trans ((congrFun hG 1007).trans gM_7))
        have g_10 := (congrFun eG_3 1008).trans ((va_up_ne _ _ (by decide)).trans ((congrFun hG 1008).trans gM_8))
        have g_11 := (congrFun eG_3 1009).trans ((va_up_ne _ _ (by decide)).trans ((congrFun hG 1009).trans gM_9))
        have g_12 := (congrFun eG_3 1010).trans ((va_up_ne _ _ (by decide)).trans ((congrFun hG 1010).trans gM_10))
        have g_13 := (congrFun eG_3 1011).trans ((va_up_ne _ _ (by decide)).trans ((congrFun hG 1011).trans gM_11))
        have g_14 := (congrFun eG_3 1012).trans ((va_up_ne _ _ (by decide)).trans ((congrFun hG 1012).trans gM_12))
        have g_15 := (congrFun eG_3 1013).trans ((va_up_ne _ _ (by decide)).trans ((congrFun hG 1013).trans gM_13))
        have g_16 := (congrFun eG_3 1014).trans ((va_up_ne _ _ (by decide)).trans ((congrFun hG 1014).trans gM_14))
        have g_17 := (congrFun eG_3 1015).trans ((va_up_ne _ _ (by decide)).trans ((congrFun hG 1015).trans gM_15))
        have g_18 := (congrFun eG_3 1016).trans ((va_up_ne _ _ (by decide)).trans ((congrFun hG 1016).trans gM_16))
        have g_19 := (congrFun eG_3 1021).trans ((va_up_ne _ _ (by decide)).trans ((congrFun hG 1021).trans gM_21))
        have g_20 := (congrFun eG_3 1022).trans ((va_up_ne _ _ (by decide)).trans ((congrFun hG 1022).trans gM_22))
        have g_21 := (congrFun eG_3 1023).trans ((va_up_ne _ _ (by decide)).trans ((congrFun hG 1023).trans gM_23))
        have g_22 := (congrFun eG_3 1024).trans ((va_up_ne _ _ (by decide)).trans ((congrFun hG 1024).trans gM_24))
        have g_23 := (congrFun eG_3 1025).trans ((va_up_ne _ _ (by decide)).trans ((congrFun hG 1025).trans gM_25))
        have hG : G_3 = gM dA ad A B (va_up S 0 0) sd G0 := by rw [eG_3, hG]; exact gM_uo (va_up S 0 0)
        refine lv_aload_n hx hb d_M_breaks_37 rfl (lv_at hl 0 rfl) ?_
        refine m_get (v := .int 0) (C := R_M) (T := T_M) (N := 28) hx hb hT in_M hown hC.1 hm 1000 rfl g_4 rfl 0 (by decide) (hT _ k_590) (fun _ h9 => h9) rfl d_M_breaks_38 ?_
        refine lv_if_le (tgt := 46) hx hb d_M_breaks_41 (by decide) (fun _ => ?_) (fun c9 => absurd (by decide) c9)
        have hk0 : ¬ kc = 0 := fun q => c_26 (by rw [ekc, q]; rfl)
        have hk1 : 1 ≤ kc := Nat.pos_of_ne_zero hk0
        refine lv_aload_n hx hb d_M_breaks_46 rfl (lv_at hl 0 rfl) ?_
        refine m_get (v := .long sd) (C := R_M) (T := T_M) (N := 28) hx hb hT in_M hown hC.1 hm 1000 rfl g_4 rfl 1 (by decide) (hT _ k_591) (fun _ h9 => h9) rfl d_M_breaks_47 ?_
        refine lv_ldc2 (v := 4) hx hb hown (hT _ k_772) d_M_breaks_50 ?_
        refine lv_iload_n hx hb d_M_breaks_53 rfl (lv_at hl 2 rfl) ?_
        refine lv_i2l hx hb d_M_breaks_54 rfl ?_
        refine lv_topl (fun x_24 ex_24 => ?_)
        refine lv_lmul hx hb d_M_breaks_55 ?_
        refine lv_topl (fun x_25 ex_25 => ?_)
        refine lv_iload_n hx hb d_M_breaks_56 rfl (lv_at hl 1 rfl) ?_
        refine lv_i2l hx hb d_M_breaks_57 rfl ?_
        refine lv_topl (fun x_26 ex_26 => ?_)
        refine lv_ladd hx hb d_M_breaks_58 ?_
        refine lv_topl (fun x_27 ex_27 => ?_)
        refine lv_lconst (v := 1) hx hb d_M_breaks_59 (by decide) ?_
        refine lv_ladd hx hb d_M_breaks_60 ?_
        refine lv_topl (fun x_28 ex_28 => ?_)
        refine lv_ldc2 (v := (-7046029254386353131)) hx hb hown (hT _ k_773) d_M_breaks_61 ?_
        refine lv_lmul hx hb d_M_breaks_64 ?_
        refine lv_topl (fun x_29 ex_29 => ?_)
        refine lv_ladd hx hb d_M_breaks_65 ?_
        refine lv_topl (fun x_30 ex_30 => ?_)
        refine lv_lstore_n (lv' := [(3, .long x_30), (0, .ref (ad 1000)), (1, .int p0), (2, .int p1)]) hx hb d_M_breaks_66 rfl hl (by decide) rfl (fun ls hl => ?_)
        refine lv_lload_n hx hb d_M_breaks_67 rfl (lv_at hl 0 rfl) ?_
        refine lv_lload_n hx hb d_M_breaks_68 rfl (lv_at hl 0 rfl) ?_
        refine lv_bipush (v := 30) hx hb d_M_breaks_69 (by decide) ?_
        refine lv_lushr hx hb d_M_breaks_71 rfl ?_
        refine lv_topl (fun x_31 ex_31 => ?_)
        refine lv_lxor hx hb d_M_breaks_72 ?_
        refine lv_topl (fun x_32 ex_32 => ?_)
        refine lv_ldc2 (v := (-4658895280553007687)) hx hb hown (hT _ k_774) d_M_breaks_73 ?_
        refine lv_lmul hx hb d_M_breaks_76 ?_
        refine lv_topl (fun x_33 ex_33 => ?_)
        refine lv_lstore_n (lv' := [(3, .long x_33), (0, .ref (ad 1000)), (1, .int p0), (2, .int p1)]) hx hb d_M_breaks_77 rfl hl (by decide) rfl (fun ls hl => ?_)
        refine lv_lload_n hx hb d_M_breaks_78 rfl (lv_at hl 0 rfl) ?_
        refine lv_lload_n hx hb d_M_breaks_79 rfl (lv_at hl 0 rfl) ?_
        refine lv_bipush (v := 27) hx hb d_M_breaks_80 (by decide) ?_
        refine lv_lushr hx hb d_M_breaks_82 rfl ?_
        refine lv_topl (fun x_34 ex_34 => ?_)
        refine lv_lxor hx hb d_M_breaks_83 ?_
        refine lv_topl (fun x_35 ex_35 => ?_)
        refine lv_ldc2 (v := (-7723592293110705685)) hx hb hown (hT _ k_775) d_M_breaks_84 ?_
        refine lv_lmul hx hb d_M_breaks_87 ?_
        refine lv_topl (fun x_36 ex_36 => ?_)
        refine lv_lstore_n (lv' := [(3, .long x_36), (0, .ref (ad 1000)), (1, .int p0), (2, .int p1)]) hx hb d_M_breaks_88 rfl hl (by decide) rfl (fun ls hl => ?_)
        refine lv_lload_n hx hb d_M_breaks_89 rfl (lv_at hl 0 rfl) ?_
        refine lv_lload_n hx hb d_M_breaks_90 rfl (lv_at hl 0 rfl) ?_
        refine lv_bipush (v := 31) hx hb d_M_breaks_91 (by decide) ?_
        refine lv_lushr hx hb d_M_breaks_93 rfl ?_
        refine lv_topl (fun x_37 ex_37 => ?_)
        refine lv_lxor hx hb d_M_breaks_94 ?_
        refine lv_topl (fun x_38 ex_38 => ?_)
        refine lv_lstore_n (lv' := [(3, .long x_38), (0, .ref (ad 1000)), (1, .int p0), (2, .int p1)]) hx hb d_M_breaks_95 rfl hl (by decide) rfl (fun ls hl => ?_)
        have hmx : x_38 = eMix sd p0 p1 := by
          simp only [ex_38, ex_37, ex_36, ex_35, ex_34, ex_33, ex_32, ex_31, ex_30, ex_29, ex_28, ex_27, ex_26, ex_25, ex_24]
          rfl
        refine lv_aload_n hx hb d_M_breaks_96 rfl (lv_at hl 1 rfl) ?_
        refine m_get (v := .ref (ad 1013)) (C := R_M) (T := T_M) (N := 28) hx hb hT in_M hown hC.1 hm 1000 rfl g_4 rfl 13 (by decide) (hT _ k_603) (fun _ h9 => h9) rfl d_M_breaks_97 ?_
        refine lv_bipush (v := 40) hx hb d_M_breaks_100 (by decide) ?_
        refine lv_iload_n hx hb d_M_breaks_102 rfl (lv_at hl 2 rfl) ?_
        refine lv_imul hx hb d_M_breaks_103 ?_
        refine lv_topi (fun x_39 ex_39 => ?_)
        refine lv_lload_n hx hb d_M_breaks_104 rfl (lv_at hl 0 rfl) ?_
        refine lv_iconst (v := 1) hx hb d_M_breaks_105 (by decide) ?_
        refine lv_lushr hx hb d_M_breaks_106 rfl ?_
        refine lv_topl (fun x_40 ex_40 => ?_)
        refine lv_aload_n hx hb d_M_breaks_107 rfl (lv_at hl 1 rfl) ?_
        refine m_get (v := .ref (ad 1014)) (C := R_M) (T := T_M) (N := 28) hx hb hT in_M hown hC.1 hm 1000 rfl g_4 rfl 14 (by decide) (hT _ k_604) (fun _ h9 => h9) rfl d_M_breaks_108 ?_
        refine lv_iload_n hx hb d_M_breaks_111 rfl (lv_at hl 2 rfl) ?_
        refine m_iald (v := A 14 i) hx hb hC.1 hm 1014 rfl 0 g_16 rfl (by rw [epi]; exact vp_in_nI (by omega) (by decide)) (by rw [epi, nI_clamp (by omega)]) d_M_breaks_112 ?_
        refine lv_i2l hx hb d_M_breaks_113 rfl ?_
        refine lv_topl (fun x_41 ex_41 => ?_)
        refine lv_lrem hx hb d_M_breaks_114 (by rw [ex_41, ekc, nI_l (by omega)]; exact fun q => hk0 ((pk_lEQ (b := 0) (by omega) (by decide)).mp q)) ?_
        refine lv_topl (fun x_42 ex_42 => ?_)
        refine lv_l2i hx hb d_M_breaks_115 rfl ?_
        refine lv_topi (fun x_43 ex_43 => ?_)
        have hi9 : x_43 = nI (eIx (eMix sd p0 p1) kc) := by
          rw [ex_43, ex_42, ex_41, ex_40, hmx, ekc]
          exact eIx_spec _ hk1 hkc
        have hlt9 := eIx_lt (eMix sd p0 p1) hk1
        refine lv_iadd hx hb d_M_breaks_116 ?_
        refine lv_topi (fun x_44 ex_44 => ?_)
        have hix : x_44 = nI (40 * i + eIx (eMix sd p0 p1) kc) := by rw [ex_44, ex_39, hi9, epi, show (40 : Int32) = nI 40 from rfl, pk_mul, nI_add]
        refine m_iald (v := A 13 (40 * i + eIx (eMix sd p0 p1) kc)) hx hb hC.1 hm 1013 rfl 0 g_15 rfl (by rw [hix]; exact vp_in_nI (by omega) (by decide)) (by rw [hix, nI_clamp (by omega)]) d_M_breaks_117 ?_
        exact m_iret (v := A 13 (40 * i + eIx (eMix sd p0 p1) kc)) hx hb hr hm (Or.inr (Or.inr (Or.inr (⟨i, kc, hi, epi, hkc, ekc, hk1, Int32.not_lt.mpr c_13, rfl, by rw [hG]⟩)))) d_M_breaks_118 hlocks
      · refine lv_iconst (v := 3) hx hb d_M_breaks_29 (by decide) ?_
        refine lv_goto (tgt := 34) hx hb d_M_breaks_30 (by decide) ?_
        refine m_put (v := .int 3) (ty := .int) (C := R_M) (T := T_M) (N := 28) hx hb hT in_M t_M tok_M nm_M hown hC.1 hm 1000 rfl ((congrFun hG 1000).trans gM_o) rfl 0 (by decide) (hT _ k_590) (fun _ h9 => h9) rfl (by decide +kernel) rfl rfl (Nat.le_of_ble_eq_true rfl) d_M_breaks_34 (fun H locs hm => ?_)
        obtain ⟨G_45, eG_45⟩ : ∃ z : mG, z = va_up G 1000 (some (.inr (6, [.int 3, .long sd, .int (S 2), .ref (ad 1003), .ref (ad 1004), .ref (ad 1005), .ref (ad 1006), .ref (ad 1007), .ref (ad 1008), .ref (ad 1009), .ref (ad 1010), .ref (ad 1011), .ref (ad 1012), .ref (ad 1013), .ref (ad 1014), .ref (ad 1015), .ref (ad 1016), .int (S 17), .int (S 18), .int (S 19), .int (S 20), .ref (ad 1021), .ref (ad 1022), .ref (ad 1023), .ref (ad 1024), .ref (ad 1025), .int (S 26), .int (S 27)]))) := ⟨_, rfl⟩
        have hm : mS D mCl (mA ad G s.heap.size) s.heap ad G_45 H locs := by rw [eG_45]; exact hm
        have g_46 : G_45 1000 = some (.inr (6, [.int 3, .long sd, .int (S 2), .ref (ad 1003), .ref (ad 1004), .ref (ad 1005), .ref (ad 1006), .ref (ad 1007), .ref (ad 1008), .ref (ad 1009), .ref (ad 1010), .ref (ad 1011), .ref (ad 1012), .ref (ad 1013), .ref (ad 1014), .ref (ad 1015), .ref (ad 1016), .int (S 17), .int (S 18), .int (S 19), .int (S 20), .ref (ad 1021), .ref (ad 1022), .ref (ad 1023), .ref (ad 1024), .ref (ad 1025), .int (S 26), .int (S 27)])) := by rw [eG_45, va_up_self]
        have g_47 := (congrFun eG_45 1003).trans ((va_up_ne _ _ (by decide)).trans ((congrFun hG 1003).trans gM_3))
        have g_48 := (congrFun eG_45 1004).trans ((va_up_ne _ _ (by decide)).trans ((congrFun hG 1004).trans gM_4))
        have g_49 := (congrFun eG_45 1005).trans ((va_up_ne _ _ (by decide)).trans ((congrFun hG 1005).trans gM_5))
        have g_50 := (congrFun eG_45 1006).trans ((va_up_ne _ _ (by decide)).trans ((congrFun hG 1006).trans gM_6))
        have g_51 := (congrFun eG_45 1007).trans ((va_up_ne _ _ (by decide)).trans ((congrFun hG 1007).trans gM_7))
        have g_52 := (congrFun eG_45 1008).trans ((va_up_ne _ _ (by decide)).trans ((congrFun hG 1008).trans gM_8))
        have g_53 := (congrFun eG_45 1009).trans ((va_up_ne _ _ (by decide)).trans ((congrFun hG 1009).trans gM_9))
        have g_54 := (congrFun eG_45 1010).trans ((va_up_ne _ _ (by decide)).trans ((congrFun hG 1010).trans gM_10))
        have g_55 := (congrFun eG_45 1011).trans ((va_up_ne _ _ (by decide)).trans ((congrFun hG 1011).trans gM_11))
        have g_56 := (congrFun eG_45 1012).trans ((va_up_ne _ _ (by decide)).trans ((congrFun hG 1012).trans gM_12))
        have g_57 := (congrFun eG_45 1013).trans ((va_up_ne _ _ (by decide)).trans ((congrFun hG 1013).trans gM_13))
        have g_58 := (congrFun eG_45 1014).trans ((va_up_ne _ _ (by decide)).trans ((congrFun hG 1014).trans gM_14))
        have g_59 := (congrFun eG_45 1015).trans ((va_up_ne _ _ (by decide)).trans ((congrFun hG 1015).trans gM_15))
        have g_60 := (congrFun eG_45 1016).trans ((va_up_ne _ _ (by decide)).trans ((congrFun hG 1016).trans gM_16))
        have g_61 := (congrFun eG_45 1021).trans ((va_up_ne _ _ (by decide)).trans ((congrFun hG 1021).trans gM_21))
        have g_62 := (congrFun eG_45 1022).trans ((va_up_ne _ _ (by decide)).trans ((congrFun hG 1022).trans gM_22))
        have g_63 := (congrFun eG_45 1023).trans ((va_up_ne _ _ (by decide)).trans ((congrFun hG 1023).trans gM_23))
        have g_64 := (congrFun eG_45 1024).trans ((va_up_ne _ _ (by decide)).trans ((congrFun hG 1024).trans gM_24))
        have g_65 := (congrFun eG_45 1025).trans ((va_up_ne _ _ (by decide)).trans ((congrFun hG 1025).trans gM_25))
        have hG : G_45 = gM dA ad A B (va_up S 0 3) sd G0 := by rw [eG_45, hG]; exact gM_uo (va_up S 0 3)
        refine lv_aload_n hx hb d_M_breaks_37 rfl (lv_at hl 0 rfl) ?_
        refine m_get (v := .int 3) (C := R_M) (T := T_M) (N := 28) hx hb hT in_M hown hC.1 hm 1000 rfl g_46 rfl 0 (by decide) (hT _ k_590) (fun _ h9 => h9) rfl d_M_breaks_38 ?_
        refine lv_if_le (tgt := 46) hx hb d_M_breaks_41 (by decide) (fun c9 => absurd c9 (by decide)) (fun _ => ?_)
        refine lv_iconst (v := 0) hx hb d_M_breaks_44 (by decide) ?_
        exact m_iret (v := 0) hx hb hr hm (Or.inr (Or.inr (Or.inl ⟨⟨i, hi, epi, c_26⟩, Int32.not_lt.mpr c_13, by rw [hG]⟩))) d_M_breaks_45 hlocks
    · refine lv_iconst (v := 2) hx hb d_M_breaks_16 (by decide) ?_
      refine lv_goto (tgt := 34) hx hb d_M_breaks_17 (by decide) ?_
      refine m_put (v := .int 2) (ty := .int) (C := R_M) (T := T_M) (N := 28) hx hb hT in_M t_M tok_M nm_M hown hC.1 hm 1000 rfl ((congrFun hG 1000).trans gM_o) rfl 0 (by decide) (hT _ k_590) (fun _ h9 => h9) rfl (by decide +kernel) rfl rfl (Nat.le_of_ble_eq_true rfl) d_M_breaks_34 (fun H locs hm => ?_)
      obtain ⟨G_66, eG_66⟩ : ∃ z : mG, z = va_up G 1000 (some (.inr (6, [.int 2, .long sd, .int (S 2), .ref (ad 1003), .ref (ad 1004), .ref (ad 1005), .ref (ad 1006), .ref (ad 1007), .ref (ad 1008), .ref (ad 1009), .ref (ad 1010), .ref (ad 1011), .ref (ad 1012), .ref (ad 1013), .ref (ad 1014), .ref (ad 1015), .ref (ad 1016), .int (S 17), .int (S 18), .int (S 19), .int (S 20), .ref (ad 1021), .ref (ad 1022), .ref (ad 1023), .ref (ad 1024), .ref (ad 1025), .int (S 26), .int (S 27)]))) := ⟨_, rfl⟩
      have hm : mS D mCl (mA ad G s.heap.size) s.heap ad G_66 H locs := by rw [eG_66]; exact hm
      have g_67 : G_66 1000 = some (.inr (6, [.int 2, .long sd, .int (S 2), .ref (ad 1003), .ref (ad 1004), .ref (ad 1005), .ref (ad 1006), .ref (ad 1007), .ref (ad 1008), .ref (ad 1009), .ref (ad 1010), .ref (ad 1011), .ref (ad 1012), .ref (ad 1013), .ref (ad 1014), .ref (ad 1015), .ref (ad 1016), .int (S 17), .int (S 18), .int (S 19), .int (S 20), .ref (ad 1021), .ref (ad 1022), .ref (ad 1023), .ref (ad 1024), .ref (ad 1025), .int (S 26), .int (S 27)])) := by rw [eG_66, va_up_self]
      have g_68 := (congrFun eG_66 1003).trans ((va_up_ne _ _ (by decide)).trans ((congrFun hG 1003).trans gM_3))
      have g_69 := (congrFun eG_66 1004).trans ((va_up_ne _ _ (by decide)).trans ((congrFun hG 1004).trans gM_4))
      have g_70 := (congrFun eG_66 1005).trans ((va_up_ne _ _ (by decide)).trans ((congrFun hG 1005).trans gM_5))
      have g_71 := (congrFun eG_66 1006).trans ((va_up_ne _ _ (by decide)).trans ((congrFun hG 1006).trans gM_6))
      have g_72 := (congrFun eG_66 1007).trans ((va_up_ne _ _ (by decide)).trans ((congrFun hG 1007).trans gM_7))
      have g_73 := (congrFun eG_66 1008).trans ((va_up_ne _ _ (by decide)).trans ((congrFun hG 1008).trans gM_8))
      have g_74 := (congrFun eG_66 1009).trans ((va_up_ne _ _ (by decide)).trans ((congrFun hG 1009).trans gM_9))
      have g_75 := (congrFun eG_66 1010).trans ((va_up_ne _ _ (by decide)).trans ((congrFun hG 1010).trans gM_10))
      have g_76 := (congrFun eG_66 1011).trans ((va_up_ne _ _ (by decide)).trans ((congrFun hG 1011).trans gM_11))
      have g_77 := (congrFun eG_66 1012).trans ((va_up_ne _ _ (by decide)).trans ((congrFun hG 1012).trans gM_12))
      have g_78 := (congrFun eG_66 1013).trans ((va_up_ne _ _ (by decide)).trans ((congrFun hG 1013).trans gM_13))
      have g_79 := (congrFun eG_66 1014).trans ((va_up_ne _ _ (by decide)).trans ((congrFun hG 1014).trans gM_14))
      have g_80 := (congrFun eG_66 1015).trans ((va_up_ne _ _ (by decide)).trans ((congrFun hG 1015).trans gM_15))
      have g_81 := (congrFun eG_66 1016).trans ((va_up_ne _ _ (by decide)).trans ((congrFun hG 1016).trans gM_16))
      have g_82 := (congrFun eG_66 1021).trans ((va_up_ne _ _ (by decide)).trans ((congrFun hG 1021).trans gM_21))
      have g_83 := (congrFun eG_66 1022).trans ((va_up_ne _ _ (by decide)).trans ((congrFun hG 1022).trans gM_22))
      have g_84 := (congrFun eG_66 1023).trans ((va_up_ne _ _ (by decide)).trans ((congrFun hG 1023).trans gM_23))
      have g_85 := (congrFun eG_66 1024).trans ((va_up_ne _ _ (by decide)).trans ((congrFun hG 1024).trans gM_24))
      have g_86 := (congrFun eG_66 1025).trans ((va_up_ne _ _ (by decide)).trans ((congrFun hG 1025).trans gM_25))
      have hG : G_66 = gM dA ad A B (va_up S 0 2) sd G0 := by rw [eG_66, hG]; exact gM_uo (va_up S 0 2)
      refine lv_aload_n hx hb d_M_breaks_37 rfl (lv_at hl 0 rfl) ?_
      refine m_get (v := .int 2) (C := R_M) (T := T_M) (N := 28) hx hb hT in_M hown hC.1 hm 1000 rfl g_67 rfl 0 (by decide) (hT _ k_590) (fun _ h9 => h9) rfl d_M_breaks_38 ?_
      refine lv_if_le (tgt := 46) hx hb d_M_breaks_41 (by decide) (fun c9 => absurd c9 (by decide)) (fun _ => ?_)
      refine lv_iconst (v := 0) hx hb d_M_breaks_44 (by decide) ?_
      exact m_iret (v := 0) hx hb hr hm (Or.inr (Or.inl ⟨⟨i, hi, epi⟩, Int32.not_le.mp c_13, by rw [hG]⟩)) d_M_breaks_45 hlocks
  · refine lv_iconst (v := 1) hx hb d_M_breaks_8 (by decide) ?_
    refine lv_goto (tgt := 34) hx hb d_M_breaks_9 (by decide) ?_
    refine m_put (v := .int 1) (ty := .int) (C := R_M) (T := T_M) (N := 28) hx hb hT in_M t_M tok_M nm_M hown hC.1 hm 1000 rfl ((congrFun hG 1000).trans gM_o) rfl 0 (by decide) (hT _ k_590) (fun _ h9 => h9) rfl (by decide +kernel) rfl rfl (Nat.le_of_ble_eq_true rfl) d_M_breaks_34 (fun H locs hm => ?_)
    obtain ⟨G_87, eG_87⟩ : ∃ z : mG, z = va_up G 1000 (some (.inr (6, [.int 1, .long sd, .int (S 2), .ref (ad 1003), .ref (ad 1004), .ref (ad 1005), .ref (ad 1006), .ref (ad 1007), .ref (ad 1008), .ref (ad 1009), .ref (ad 1010), .ref (ad 1011), .ref (ad 1012), .ref (ad 1013), .ref (ad 1014), .ref (ad 1015), .ref (ad 1016), .int (S 17), .int (S 18), .int (S 19), .int (S 20), .ref (ad 1021), .ref (ad 1022), .ref (ad 1023), .ref (ad 1024), .ref (ad 1025), .int (S 26), .int (S 27)]))) := ⟨_, rfl⟩
    have hm : mS D mCl (mA ad G s.heap.size) s.heap ad G_87 H locs := by rw [eG_87]; exact hm
    have g_88 : G_87 1000 = some (.inr (6, [.int 1, .long sd, .int (S 2), .ref (ad 1003), .ref (ad 1004), .ref (ad 1005), .ref (ad 1006), .ref (ad 1007), .ref (ad 1008), .ref (ad 1009), .ref (ad 1010), .ref (ad 1011), .ref (ad 1012), .ref (ad 1013), .ref (ad 1014), .ref (ad 1015), .ref (ad 1016), .int (S 17), .int (S 18), .int (S 19), .int (S 20), .ref (ad 1021), .ref (ad 1022), .ref (ad 1023), .ref (ad 1024), .ref (ad 1025), .int (S 26), .int (S 27)])) := by rw [eG_87, va_up_self]
    have g_89 := (congrFun eG_87 1003).trans ((va_up_ne _ _ (by decide)).trans ((congrFun hG 1003).trans gM_3))
    have g_90 := (congrFun eG_87 1004).trans ((va_up_ne _ _ (by decide)).trans ((congrFun hG 1004).trans gM_4))
    have g_91 := (congrFun eG_87 1005).trans ((va_up_ne _ _ (by decide)).trans ((congrFun hG 1005).trans gM_5))
    have g_92 := (congrFun eG_87 1006).trans ((va_up_ne _ _ (by decide)).trans ((congrFun hG 1006).trans gM_6))
    have g_93 := (congrFun eG_87 1007).trans ((va_up_ne _ _ (by decide)).trans ((congrFun hG 1007).trans gM_7))
    have g_94 := (congrFun eG_87 1008).trans ((va_up_ne _ _ (by decide)).trans ((congrFun hG 1008).trans gM_8))
    have g_95 := (congrFun eG_87 1009).trans ((va_up_ne _ _ (by decide)).trans ((congrFun hG 1009).trans gM_9))
    have g_96 := (congrFun eG_87 1010).trans ((va_up_ne _ _ (by decide)).trans ((congrFun hG 1010).trans gM_10))
    have g_97 := (congrFun eG_87 1011).trans ((va_up_ne _ _ (by decide)).trans ((congrFun hG 1011).trans gM_11))
    have g_98 := (congrFun eG_87 1012).trans ((va_up_ne _ _ (by decide)).trans ((congrFun hG 1012).trans gM_12))
    have g_99 := (congrFun eG_87 1013).trans ((va_up_ne _ _ (by decide)).trans ((congrFun hG 1013).trans gM_13))
    have g_100 := (congrFun eG_87 1014).trans ((va_up_ne _ _ (by decide)).trans ((congrFun hG 1014).trans gM_14))
    have g_101 := (congrFun eG_87 1015).trans ((va_up_ne _ _ (by decide)).trans ((congrFun hG 1015).trans gM_15))
    have g_102 := (congrFun eG_87 1016).trans ((va_up_ne _ _ (by decide)).trans ((congrFun hG 1016).trans gM_16))
    have g_103 := (congrFun eG_87 1021).trans ((va_up_ne _ _ (by decide)).trans ((congrFun hG 1021).trans gM_21))
    have g_104 := (congrFun eG_87 1022).trans ((va_up_ne _ _ (by decide)).trans ((congrFun hG 1022).trans gM_22))
    have g_105 := (congrFun eG_87 1023).trans ((va_up_ne _ _ (by decide)).trans ((congrFun hG 1023).trans gM_23))
    have g_106 := (congrFun eG_87 1024).trans ((va_up_ne _ _ (by decide)).trans ((congrFun hG 1024).trans gM_24))
    have g_107 := (congrFun eG_87 1025).trans ((va_up_ne _ _ (by decide)).trans ((congrFun hG 1025).trans gM_25))
    have hG : G_87 = gM dA ad A B (va_up S 0 1) sd G0 := by rw [eG_87, hG]; exact gM_uo (va_up S 0 1)
    refine lv_aload_n hx hb d_M_breaks_37 rfl (lv_at hl 0 rfl) ?_
    refine m_get (v := .int 1) (C := R_M) (T := T_M) (N := 28) hx hb hT in_M hown hC.1 hm 1000 rfl g_88 rfl 0 (by decide) (hT _ k_590) (fun _ h9 => h9) rfl d_M_breaks_38 ?_
    refine lv_if_le (tgt := 46) hx hb d_M_breaks_41 (by decide) (fun c9 => absurd c9 (by decide)) (fun _ => ?_)
    refine lv_iconst (v := 0) hx hb d_M_breaks_44 (by decide) ?_
    exact m_iret (v := 0) hx hb hr hm (Or.inl ⟨bv_eq w_2 c_5, by rw [hG]⟩) d_M_breaks_45 hlocks

set_option maxHeartbeats 4000000 in
set_option maxRecDepth 100000 in
theorem c_M_rules (l : Launch) (D : va_G) (dA : Nat → ClassId) (ad : Nat → Nat) (G : mG) (sz : Nat) (A : Nat → Nat → Int32) (B : Nat → Nat → Int64) (S : Nat → Int32) (sd : Int64) (G0 : mG) (hG : G = gM dA ad A B S sd G0) (p0 p1 p2 p3 : Int32) : Met l y_M_rules (.code y_M_rules b_M_rules 6 none :: mBig) ({ frames := 1, cells := 0, slots := 0, locals := 25 }) (mPc [.ref (ad 1000), .int p0, .int p1, .int p2, .int p3] D mCl (mTys dA) mTx ad G sz) (mQv (fun (u : mU) => (((p0 < 0 ∨ 1000000 < p0 ∨ p2 < 0 ∨ 1000000 < p2 ∨ p3 < 0 ∨ 1000000 < p3 ∨ p1 < 2 ∨ 12 < p1) ∧ u = (ad, gM dA ad A B (va_up S 0 1) sd G0)) ∨ (¬ (p0 < 0 ∨ 1000000 < p0 ∨ p2 < 0 ∨ 1000000 < p2 ∨ p3 < 0 ∨ 1000000 < p3 ∨ p1 < 2 ∨ 12 < p1) ∧ u = (ad, gM dA ad A B (va_up (va_up (va_up (va_up (va_up S 0 0) 17 p0) 18 p1) 19 p2) 20 p3) sd G0)))) D mCl ad G sz) 0 0 (mA ad G sz) := by
  refine Met.ofW (cc := b_M_rules) (maxL := 6) (ret := none) (by decide) rfl ?_
  intro p e s m args below meth c s₁ BB hml hv
  obtain ⟨rfl, hsz, hw0, hC⟩ := hv
  have hx := BB.exec
  have hb := BB.bytes
  have hr := BB.returns
  have hts := atoms_spec (ws := .code y_M_rules b_M_rules 6 none :: mBig) BB.pre
  have hT : ∀ w ∈ mBig, w.before _ s = true := fun w h => hts w (List.mem_cons_of_mem _ h)
  have hown : s.vm.findClass "EdgeWearModel" = some m.cls := findClass_of_methodNamed BB.named
  have hlocks := BB.notSynchronized
  subst hsz
  have hm := mS.start hw0
  have hA : ∀ q : Nat, s.heap.size ≤ q → mA ad G s.heap.size q := fun q h => Or.inr h
  have hl := lv_entry ([.ref (ad 1000), .int p0, .int p1, .int p2, .int p3]) (n := 6) (Nat.le_of_ble_eq_true rfl)
  rw [lg_entry_eq]
  generalize (lg_sl ([.ref (ad 1000), .int p0, .int p1, .int p2, .int p3]) ++ List.replicate (6 - (lg_sl ([.ref (ad 1000), .int p0, .int p1, .int p2, .int p3])).length) Slot.unset).toArray = ls at hl ⊢
  have hl : lv_has ls 6 [(0, .ref (ad 1000)), (1, .int p0), (2, .int p1), (3, .int p2), (4, .int p3)] := hl
  refine lv_iload_n hx hb d_M_rules_0 rfl (lv_at hl 1 rfl) ?_
  refine lv_i2l hx hb d_M_rules_1 rfl ?_
  refine lv_topl (fun x_1 ex_1 => ?_)
  refine lv_lconst (v := 0) hx hb d_M_rules_2 (by decide) ?_
  refine lv_ldc2 (v := 1000000) hx hb hown (hT _ k_589) d_M_rules_3 ?_
  refine m_roi (m_runS (As := [.long x_1, .long 0, .long 1000000]) (rest := []) ⟨hx, hb, hml, hown, hts⟩ (c_M_isIn l D dA ad G s.heap.size x_1 0 1000000) (va_cwS 3 hts (gS k_690 k_688 k_689 k_4) rfl rfl rfl (by decide +kernel) ⟨Nat.le_of_ble_eq_true rfl, Nat.le_of_ble_eq_true rfl⟩) hm hA hC rfl hl.1 rfl (Nat.le_of_ble_eq_true rfl) d_M_rules_6 ⟨Nat.le_of_ble_eq_true rfl, Nat.le_of_ble_eq_true rfl⟩) hm hA (fun r_2 H locs w_3 hm => ?_)
  refine lv_if_eq (tgt := 55) hx hb d_M_rules_9 (by decide) (fun c_9 => ?_) (fun c_9 => ?_)
  · refine lv_iconst (v := 0) hx hb d_M_rules_55 (by decide) ?_
    refine lv_istore (lv' := [(5, .int 0), (0, .ref (ad 1000)), (1, .int p0), (2, .int p1), (3, .int p2), (4, .int p3)]) hx hb d_M_rules_56 hl (by decide) rfl (fun ls hl => ?_)
    refine lv_aload_n hx hb d_M_rules_58 rfl (lv_at hl 1 rfl) ?_
    refine lv_iload hx hb d_M_rules_59 (lv_at hl 0 rfl) ?_
    refine lv_if_eq (tgt := 68) hx hb d_M_rules_61 (by decide) (fun _ => ?_) (fun c9 => absurd (by decide) c9)
    refine lv_iconst (v := 1) hx hb d_M_rules_68 (by decide) ?_
    refine m_put (v := .int 1) (ty := .int) (C := R_M) (T := T_M) (N := 28) hx hb hT in_M t_M tok_M nm_M hown hC.1 hm 1000 rfl ((congrFun hG 1000).trans gM_o) rfl 0 (by decide) (hT _ k_590) (fun _ h9 => h9) rfl (by decide +kernel) rfl rfl (Nat.le_of_ble_eq_true rfl) d_M_rules_69 (fun H locs hm => ?_)
    obtain ⟨G_4, eG_4⟩ : ∃ z : mG, z = va_up G 1000 (some (.inr (6, [.int 1, .long sd, .int (S 2), .ref (ad 1003), .ref (ad 1004), .ref (ad 1005), .ref (ad 1006), .ref (ad 1007), .ref (ad 1008), .ref (ad 1009), .ref (ad 1010), .ref (ad 1011), .ref (ad 1012), .ref (ad 1013), .ref (ad 1014), .ref (ad 1015), .ref (ad 1016), .int (S 17), .int (S 18), .int (S 19), .int (S 20), .ref (ad 1021), .ref (ad 1022), .ref (ad 1023), .ref (ad 1024), .ref (ad 1025), .int (S 26), .int (S 27)]))) := ⟨_, rfl⟩
    have hm : mS D mCl (mA ad G s.heap.size) s.heap ad G_4 H locs := by rw [eG_4]; exact hm
    have g_5 : G_4 1000 = some (.inr (6, [.int 1, .long sd, .int (S 2), .ref (ad 1003), .ref (ad 1004), .ref (ad 1005), .ref (ad 1006), .ref (ad 1007), .ref (ad 1008), .ref (ad 1009), .ref (ad 1010), .ref (ad 1011), .ref (ad 1012), .ref (ad 1013), .ref (ad 1014), .ref (ad 1015), .ref (ad 1016), .int (S 17), .int (S 18), .int (S 19), .int (S 20), .ref (ad 1021), .ref (ad 1022), .ref (ad 1023), .ref (ad 1024), .ref (ad 1025), .int (S 26), .int (S 27)])) := by rw [eG_4, va_up_self]
    have g_6 := (congrFun eG_4 1003).trans ((va_up_ne _ _ (by decide)).trans ((congrFun hG 1003).trans gM_3))
    have g_7 := (congrFun eG_4 1004).trans ((va_up_ne _ _ (by decide)).trans ((congrFun hG 1004).trans gM_4))
    have g_8 := (congrFun eG_4 1005).trans ((va_up_ne _ _ (by decide)).trans ((congrFun hG 1005).trans gM_5))
    have g_9 := (congrFun eG_4 1006).trans ((va_up_ne _ _ (by decide)).trans ((congrFun hG 1006).trans gM_6))
    have g_10 := (congrFun eG_4 1007).trans ((va_up_ne _ _ (by decide)).trans ((congrFun hG 1007).trans gM_7))
    have g_11 := (congrFun eG_4 1008).trans ((va_up_ne _ _ (by decide)).trans ((congrFun hG 1008).trans gM_8))
    have g_12 := (congrFun eG_4 1009).trans ((va_up_ne _ _ (by decide)).trans ((congrFun hG 1009).trans gM_9))
    have g_13 := (congrFun eG_4 1010).trans ((va_up_ne _ _ (by decide)).trans ((congrFun hG 1010).trans gM_10))
    have g_14 := (congrFun eG_4 1011).trans ((va_up_ne _ _ (by decide)).trans ((congrFun hG 1011).trans gM_11))
    have g_15 := (congrFun eG_4 1012).trans ((va_up_ne _ _ (by decide)).trans ((congrFun hG 1012).trans gM_12))
    have g_16 := (congrFun eG_4 1013).trans ((va_up_ne _ _ (by decide)).trans ((congrFun hG 1013).trans gM_13))
    have g_17 := (congrFun eG_4 1014).trans ((va_up_ne _ _ (by decide)).trans ((congrFun hG 1014).trans gM_14))
    have g_18 := (congrFun eG_4 1015).trans ((va_up_ne _ _ (by decide)).trans ((congrFun hG 1015).trans gM_15))
    have g_19 := (congrFun eG_4 1016).trans ((va_up_ne _ _ (by decide)).trans ((congrFun hG 1016).trans gM_16))
    have g_20 := (congrFun eG_4 1021).trans ((va_up_ne _ _ (by decide)).trans ((congrFun hG 1021).trans gM_21))
    have g_21 := (congrFun eG_4 1022).trans ((va_up_ne _ _ (by decide)).trans ((congrFun hG 1022).trans gM_22))
    have g_22 := (congrFun eG_4 1023).trans ((va_up_ne _ _ (by decide)).trans ((congrFun hG 1023).trans gM_23))
    have g_23 := (congrFun eG_4 1024).trans ((va_up_ne _ _ (by decide)).trans ((congrFun hG 1024).trans gM_24))
    have g_24 := (congrFun eG_4 1025).trans ((va_up_ne _ _ (by decide)).trans ((congrFun hG 1025).trans gM_25))
    have hG : G_4 = gM dA ad A B (va_up S 0 1) sd G0 := by rw [eG_4, hG]; exact gM_uo (va_up S 0 1)
    refine lv_iload hx hb d_M_rules_72 (lv_at hl 0 rfl) ?_
    refine lv_if_eq (tgt := 98) hx hb d_M_rules_74 (by decide) (fun _ => ?_) (fun c9 => absurd (by decide) c9)
    exact m_vret hx hb hr hm (Or.inl ⟨((show p0 < 0 ∨ 1000000 < p0 from (Classical.not_not.mp (fun q => bv_eq w_3 c_9 (by rw [ex_1]; exact (inJ (p := p0) (lo := 0) (hi := 1000000) (a := 0) (b := 1000000) (by decide) (by decide)).mpr q)))).elim Or.inl (fun h => Or.inr (Or.inl h))), by rw [hG]⟩) d_M_rules_98 hlocks
  · refine lv_iload_n hx hb d_M_rules_12 rfl (lv_at hl 3 rfl) ?_
    refine lv_i2l hx hb d_M_rules_13 rfl ?_
    refine lv_topl (fun x_25 ex_25 => ?_)
    refine lv_lconst (v := 0) hx hb d_M_rules_14 (by decide) ?_
    refine lv_ldc2 (v := 1000000) hx hb hown (hT _ k_589) d_M_rules_15 ?_
    refine m_roi (m_runS (As := [.long x_25, .long 0, .long 1000000]) (rest := []) ⟨hx, hb, hml, hown, hts⟩ (c_M_isIn l D dA ad G H.size x_25 0 1000000) (va_cwS 3 hts (gS k_690 k_688 k_689 k_4) rfl rfl rfl (by decide +kernel) ⟨Nat.le_of_ble_eq_true rfl, Nat.le_of_ble_eq_true rfl⟩) hm hA hC rfl hl.1 rfl (Nat.le_of_ble_eq_true rfl) d_M_rules_18 ⟨Nat.le_of_ble_eq_true rfl, Nat.le_of_ble_eq_true rfl⟩) hm hA (fun r_26 H locs w_27 hm => ?_)
    refine lv_if_eq (tgt := 55) hx hb d_M_rules_21 (by decide) (fun c_21 => ?_) (fun c_21 => ?_)
    · refine lv_iconst (v := 0) hx hb d_M_rules_55 (by decide) ?_
      refine lv_istore (lv' := [(5, .int 0), (0, .ref (ad 1000)), (1, .int p0), (2, .int p1), (3, .int p2), (4, .int p3)]) hx hb d_M_rules_56 hl (by decide) rfl (fun ls hl => ?_)
      refine lv_aload_n hx hb d_M_rules_58 rfl (lv_at hl 1 rfl) ?_
      refine lv_iload hx hb d_M_rules_59 (lv_at hl 0 rfl) ?_
      refine lv_if_eq (tgt := 68) hx hb d_M_rules_61 (by decide) (fun _ => ?_) (fun c9 => absurd (by decide) c9)
      refine lv_iconst (v := 1) hx hb d_M_rules_68 (by decide) ?_
      refine m_put (v := .int 1) (ty := .int) (C := R_M) (T := T_M) (N := 28) hx hb hT in_M t_M tok_M nm_M hown hC.1 hm 1000 rfl ((congrFun hG 1000).trans gM_o) rfl 0 (by decide) (hT _ k_590) (fun _ h9 => h9) rfl (by decide +kernel) rfl rfl (Nat.le_of_ble_eq_true rfl) d_M_rules_69 (fun H locs hm => ?_)
      obtain ⟨G_28, eG_28⟩ : ∃ z : mG, z = va_up G 1000 (some (.inr (6, [.int 1, .long sd, .int (S 2), .ref (ad 1003), .ref (ad 1004), .ref (ad 1005), .ref (ad 1006), .ref (ad 1007), .ref (ad 1008), .ref (ad 1009), .ref (ad 1010), .ref (ad 1011), .ref (ad 1012), .ref (ad 1013), .ref (ad 1014), .ref (ad 1015), .ref (ad 1016), .int (S 17), .int (S 18), .int (S 19), .int (S 20), .ref (ad 1021), .ref (ad 1022), .ref (ad 1023), .ref (ad 1024), .ref (ad 1025), .int (S 26), .int (S 27)]))) := ⟨_, rfl⟩
      have hm : mS D mCl (mA ad G s.heap.size) s.heap ad G_28 H locs := by rw [eG_28]; exact hm
      have g_29 : G_28 1000 = some (.inr (6, [.int 1, .long sd, .int (S 2), .ref (ad 1003), .ref (ad 1004), .ref (ad 1005), .ref (ad 1006), .ref (ad 1007), .ref (ad 1008), .ref (ad 1009), .ref (ad 1010), .ref (ad 1011), .ref (ad 1012), .ref (ad 1013), .ref (ad 1014), .ref (ad 1015), .ref (ad 1016), .int (S 17), .int (S 18), .int (S 19), .int (S 20), .ref (ad 1021), .ref (ad 1022), .ref (ad 1023), .ref (ad 1024), .ref (ad 1025), .int (S 26), .int (S 27)])) := by rw [eG_28, va_up_self]
      have g_30 := (congrFun eG_28 1003).trans ((va_up_ne _ _ (by decide)).trans ((congrFun hG 1003).trans gM_3))
      have g_31 := (congrFun eG_28 1004).trans ((va_up_ne _ _ (by decide)).trans ((congrFun hG 1004).trans gM_4))
      have g_32 := (congrFun eG_28 1005).trans ((va_up_ne _ _ (by decide)).trans ((congrFun hG 1005).trans gM_5))
      have g_33 := (congrFun eG_28 1006).trans ((va_up_ne _ _ (by decide)).trans ((congrFun hG 1006).trans gM_6))
      have g_34 := (congrFun eG_28 1007).trans ((va_up_ne _ _ (by decide)).trans ((congrFun hG 1007).trans gM_7))
      have g_35 := (congrFun eG_28 1008).trans ((va_up_ne _ _ (by decide)).trans ((congrFun hG 1008).trans gM_8))
      have g_36 := (congrFun eG_28 1009).trans ((va_up_ne _ _ (by decide)).trans ((congrFun hG 1009).trans gM_9))
      have g_37 := (congrFun eG_28 1010).trans ((va_up_ne _ _ (by decide)).trans ((congrFun hG 1010).trans gM_10))
      have g_38 := (congrFun eG_28 1011).trans ((va_up_ne _ _ (by decide)).trans ((congrFun hG 1011).trans gM_11))
      have g_39 := (congrFun eG_28 1012).trans ((va_up_ne _ _ (by decide)).trans ((congrFun hG 1012).trans gM_12))
      have g_40 := (congrFun eG_28 1013).trans ((va_up_ne _ _ (by decide)).trans ((congrFun hG 1013).trans gM_13))
      have g_41 := (congrFun eG_28 1014).trans ((va_up_ne _ _ (by decide)).trans ((congrFun hG 1014).trans gM_14))
      have g_42 := (congrFun eG_28 1015).trans ((va_up_ne _ _ (by decide)).trans ((congrFun hG 1015).trans gM_15))
      have g_43 := (congrFun eG_28 1016).trans ((va_up_ne _ _ (by decide)).trans ((congrFun hG 1016).trans gM_16))
      have g_44 := (congrFun eG_28 1021).trans ((va_up_ne _ _ (by decide)).trans ((congrFun hG 1021).trans gM_21))
      have g_45 := (congrFun eG_28 1022).trans ((va_up_ne _ _ (by decide)).trans ((congrFun hG 1022).trans gM_22))
      have g_46 := (congrFun eG_28 1023).trans ((va_up_ne _ _ (by decide)).trans ((congrFun hG 1023).trans gM_23))
      have g_47 := (congrFun eG_28 1024).trans ((va_up_ne _ _ (by decide)).trans ((congrFun hG 1024).trans gM_24))
      have g_48 := (congrFun eG_28 1025).trans ((va_up_ne _ _ (by decide)).trans ((congrFun hG 1025).trans gM_25))
      have hG : G_28 = gM dA ad A B (va_up S 0 1) sd G0 := by rw [eG_28, hG]; exact gM_uo (va_up S 0 1)
      refine lv_iload hx hb d_M_rules_72 (lv_at hl 0 rfl) ?_
      refine lv_if_eq (tgt := 98) hx hb d_M_rules_74 (by decide) (fun _ => ?_) (fun c9 => absurd (by decide) c9)
      exact m_vret hx hb hr hm (Or.inl ⟨(Or.inr (Or.inr ((show p2 < 0 ∨ 1000000 < p2 from (Classical.not_not.mp (fun q => bv_eq w_27 c_21 (by rw [ex_25]; exact (inJ (p := p2) (lo := 0) (hi := 1000000) (a := 0) (b := 1000000) (by decide) (by decide)).mpr q)))).elim Or.inl (fun h => Or.inr (Or.inl h))))), by rw [hG]⟩) d_M_rules_98 hlocks
    · refine lv_iload hx hb d_M_rules_24 (lv_at hl 4 rfl) ?_
      refine lv_i2l hx hb d_M_rules_26 rfl ?_
      refine lv_topl (fun x_49 ex_49 => ?_)
      refine lv_lconst (v := 0) hx hb d_M_rules_27 (by decide) ?_
      refine lv_ldc2 (v := 1000000) hx hb hown (hT _ k_589) d_M_rules_28 ?_
      refine m_roi (m_runS (As := [.long x_49, .long 0, .long 1000000]) (rest := []) ⟨hx, hb, hml, hown, hts⟩ (c_M_isIn l D dA ad G H.size x_49 0 1000000) (va_cwS 3 hts (gS k_690 k_688 k_689 k_4) rfl rfl rfl (by decide +kernel) ⟨Nat.le_of_ble_eq_true rfl, Nat.le_of_ble_eq_true rfl⟩) hm hA hC rfl hl.1 rfl (Nat.le_of_ble_eq_true rfl) d_M_rules_31 ⟨Nat.le_of_ble_eq_true rfl, Nat.le_of_ble_eq_true rfl⟩) hm hA (fun r_50 H locs w_51 hm => ?_)
      refine lv_if_eq (tgt := 55) hx hb d_M_rules_34 (by decide) (fun c_34 => ?_) (fun c_34 => ?_)
      · refine lv_iconst (v := 0) hx hb d_M_rules_55 (by decide) ?_
        refine lv_istore (lv' := [(5, .int 0), (0, .ref (ad 1000)), (1, .int p0), (2, .int p1), (3, .int p2), (4, .int p3)]) hx hb d_M_rules_56 hl (by decide) rfl (fun ls hl => ?_)
        refine lv_aload_n hx hb d_M_rules_58 rfl (lv_at hl 1 rfl) ?_
        refine lv_iload hx hb d_M_rules_59 (lv_at hl 0 rfl) ?_
        refine lv_if_eq (tgt := 68) hx hb d_M_rules_61 (by decide) (fun _ => ?_) (fun c9 => absurd (by decide) c9)
        refine lv_iconst (v := 1) hx hb d_M_rules_68 (by decide) ?_
        refine m_put (v := .int 1) (ty := .int) (C := R_M) (T := T_M) (N := 28) hx hb hT in_M t_M tok_M nm_M hown hC.1 hm 1000 rfl ((congrFun hG 1000).trans gM_o) rfl 0 (by decide) (hT _ k_590) (fun _ h9 => h9) rfl (by decide +kernel) rfl rfl (Nat.le_of_ble_eq_true rfl) d_M_rules_69 (fun H locs hm => ?_)
        obtain ⟨G_52, eG_52⟩ : ∃ z : mG, z = va_up G 1000 (some (.inr (6, [.int 1, .long sd, .int (S 2), .ref (ad 1003), .ref (ad 1004), .ref (ad 1005), .ref (ad 1006), .ref (ad 1007), .ref (ad 1008), .ref (ad 1009), .ref (ad 1010), .ref (ad 1011), .ref (ad 1012), .ref (ad 1013), .ref (ad 1014), .ref (ad 1015), .ref (ad 1016), .int (S 17), .int (S 18), .int (S 19), .int (S 20), .ref (ad 1021), .ref (ad 1022), .ref (ad 1023), .ref (ad 1024), .ref (ad 1025), .int (S 26), .int (S 27)]))) := ⟨_, rfl⟩
        have hm : mS D mCl (mA ad G s.heap.size) s.heap ad G_52 H locs := by rw [eG_52]; exact hm
        have g_53 : G_52 1000 = some (.inr (6, [.int 1, .long sd, .int (S 2), .ref (ad 1003), .ref (ad 1004), .ref (ad 1005), .ref (ad 1006), .ref (ad 1007), .ref (ad 1008), .ref (ad 1009), .ref (ad 1010), .ref (ad 1011), .ref (ad 1012), .ref (ad 1013), .ref (ad 1014), .ref (ad 1015), .ref (ad 1016), .int (S 17), .int (S 18), .int (S 19), .int (S 20), .ref (ad 1021), .ref (ad 1022), .ref (ad 1023), .ref (ad 1024), .ref (ad 1025), .int (S 26), .int (S 27)])) := by rw [eG_52, va_up_self]
        have g_54 := (congrFun eG_52 1003).trans ((va_up_ne _ _ (by decide)).trans ((congrFun hG 1003).trans gM_3))
        have g_55 := (congrFun eG_52 1004).trans ((va_up_ne _ _ (by decide)).trans ((congrFun hG 1004).trans gM_4))
        have g_56 := (congrFun eG_52 1005).trans ((va_up_ne _ _ (by decide)).trans ((congrFun hG 1005).trans gM_5))
        have g_57 := (congrFun eG_52 1006).trans ((va_up_ne _ _ (by decide)).trans ((congrFun hG 1006).trans gM_6))
        have g_58 := (congrFun eG_52 1007).trans ((va_up_ne _ _ (by decide)).trans ((congrFun hG 1007).trans gM_7))
        have g_59 := (congrFun eG_52 1008).trans ((va_up_ne _ _ (by decide)).trans ((congrFun hG 1008).trans gM_8))
        have g_60 := (congrFun eG_52 1009).trans ((va_up_ne _ _ (by decide)).trans ((congrFun hG 1009).trans gM_9))
        have g_61 := (congrFun eG_52 1010).trans ((va_up_ne _ _ (by decide)).trans ((congrFun hG 1010).trans gM_10))
        have g_62 := (congrFun eG_52 1011).trans ((va_up_ne _ _ (by decide)).trans ((congrFun hG 1011).trans gM_11))
        have g_63 := (congrFun eG_52 1012).trans ((va_up_ne _ _ (by decide)).trans ((congrFun hG 1012).trans gM_12))
        have g_64 := (congrFun eG_52 1013).trans ((va_up_ne _ _ (by decide)).trans ((congrFun hG 1013).trans gM_13))
        have g_65 := (congrFun eG_52 1014).trans ((va_up_ne _ _ (by decide)).trans ((congrFun hG 1014).trans gM_14))
        have g_66 := (congrFun eG_52 1015).trans ((va_up_ne _ _ (by decide)).trans ((congrFun hG 1015).trans gM_15))
        have g_67 := (congrFun eG_52 1016).trans ((va_up_ne _ _ (by decide)).trans ((congrFun hG 1016).trans gM_16))
        have g_68 := (congrFun eG_52 1021).trans ((va_up_ne _ _ (by decide)).trans ((congrFun hG 1021).trans gM_21))
        have g_69 := (congrFun eG_52 1022).trans ((va_up_ne _ _ (by decide)).trans ((congrFun hG 1022).trans gM_22))
        have g_70 := (congrFun eG_52 1023).trans ((va_up_ne _ _ (by decide)).trans ((congrFun hG 1023).trans gM_23))
        have g_71 := (congrFun eG_52 1024).trans ((va_up_ne _ _ (by decide)).trans ((congrFun hG 1024).trans gM_24))
        have g_72 := (congrFun eG_52 1025).trans ((va_up_ne _ _ (by decide)).trans ((congrFun hG 1025).trans gM_25))
        have hG : G_52 = gM dA ad A B (va_up S 0 1) sd G0 := by rw [eG_52, hG]; exact gM_uo (va_up S 0 1)
        refine lv_iload hx hb d_M_rules_72 (lv_at hl 0 rfl) ?_
        refine lv_if_eq (tgt := 98) hx hb d_M_rules_74 (by decide) (fun _ => ?_) (fun c9 => absurd (by decide) c9)
        exact m_vret hx hb hr hm (Or.inl ⟨(Or.inr (Or.inr (Or.inr (Or.inr ((show p3 < 0 ∨ 1000000 < p3 from (Classical.not_not.mp (fun q => bv_eq w_51 c_34 (by rw [ex_49]; exact (inJ (p := p3) (lo := 0) (hi := 1000000) (a := 0) (b := 1000000) (by decide) (by decide)).mpr q)))).elim Or.inl (fun h => Or.inr (Or.inl h))))))), by rw [hG]⟩) d_M_rules_98 hlocks
      · refine lv_iload_n hx hb d_M_rules_37 rfl (lv_at hl 2 rfl) ?_
        refine lv_i2l hx hb d_M_rules_38 rfl ?_
        refine lv_topl (fun x_73 ex_73 => ?_)
        refine lv_ldc2 (v := 2) hx hb hown (hT _ k_780) d_M_rules_39 ?_
        refine lv_ldc2 (v := 12) hx hb hown (hT _ k_781) d_M_rules_42 ?_
        refine m_roi (m_runS (As := [.long x_73, .long 2, .long 12]) (rest := []) ⟨hx, hb, hml, hown, hts⟩ (c_M_isIn l D dA ad G H.size x_73 2 12) (va_cwS 3 hts (gS k_690 k_688 k_689 k_4) rfl rfl rfl (by decide +kernel) ⟨Nat.le_of_ble_eq_true rfl, Nat.le_of_ble_eq_true rfl⟩) hm hA hC rfl hl.1 rfl (Nat.le_of_ble_eq_true rfl) d_M_rules_45 ⟨Nat.le_of_ble_eq_true rfl, Nat.le_of_ble_eq_true rfl⟩) hm hA (fun r_74 H locs w_75 hm => ?_)
        refine lv_if_eq (tgt := 55) hx hb d_M_rules_48 (by decide) (fun c_48 => ?_) (fun c_48 => ?_)
        · refine lv_iconst (v := 0) hx hb d_M_rules_55 (by decide) ?_
          refine lv_istore (lv' := [(5, .int 0), (0, .ref (ad 1000)), (1, .int p0), (2, .int p1), (3, .int p2), (4, .int p3)]) hx hb d_M_rules_56 hl (by decide) rfl (fun ls hl => ?_)
          refine lv_aload_n hx hb d_M_rules_58 rfl (lv_at hl 1 rfl) ?_
          refine lv_iload hx hb d_M_rules_59 (lv_at hl 0 rfl) ?_
          refine lv_if_eq (tgt := 68) hx hb d_M_rules_61 (by decide) (fun _ => ?_) (fun c9 => absurd (by decide) c9)
          refine lv_iconst (v := 1) hx hb d_M_rules_68 (by decide) ?_
          refine m_put (v := .int 1) (ty := .int) (C := R_M) (T := T_M) (N := 28) hx hb hT in_M t_M tok_M nm_M hown hC.1 hm 1000 rfl ((congrFun hG 1000).trans gM_o) rfl 0 (by decide) (hT _ k_590) (fun _ h9 => h9) rfl (by decide +kernel) rfl rfl (Nat.le_of_ble_eq_true rfl) d_M_rules_69 (fun H locs hm => ?_)
          obtain ⟨G_76, eG_76⟩ : ∃ z : mG, z = va_up G 1000 (some (.inr (6, [.int 1, .long sd, .int (S 2), .ref (ad 1003), .ref (ad 1004), .ref (ad 1005), .ref (ad 1006), .ref (ad 1007), .ref (ad 1008), .ref (ad 1009), .ref (ad 1010), .ref (ad 1011), .ref (ad 1012), .ref (ad 1013), .ref (ad 1014), .ref (ad 1015), .ref (ad 1016), .int (S 17), .int (S 18), .int (S 19), .int (S 20), .ref (ad 1021), .ref (ad 1022), .ref (ad 1023), .ref (ad 1024), .ref (ad 1025), .int (S 26), .int (S 27)]))) := ⟨_, rfl⟩
          have hm : mS D mCl (mA ad G s.heap.size) s.heap ad G_76 H locs := by rw [eG_76]; exact hm
          have g_77 : G_76 1000 = some (.inr (6, [.int 1, .long sd, .int (S 2), .ref (ad 1003), .ref (ad 1004), .ref (ad 1005), .ref (ad 1006), .ref (ad 1007), .ref (ad 1008), .ref (ad 1009), .ref (ad 1010), .ref (ad 1011), .ref (ad 1012), .ref (ad 1013), .ref (ad 1014), .ref (ad 1015), .ref (ad 1016), .int (S 17), .int (S 18), .int (S 19), .int (S 20), .ref (ad 1021), .ref (ad 1022), .ref (ad 1023), .ref (ad 1024), .ref (ad 1025), .int (S 26), .int (S 27)])) := by rw [eG_76, va_up_self]
          have g_78 := (congrFun eG_76 1003).trans ((va_up_ne _ _ (by decide)).trans ((congrFun hG 1003).trans gM_3))
          have g_79 := (congrFun eG_76 1004).trans ((va_up_ne _ _ (by decide)).trans ((congrFun hG 1004).trans gM_4))
          have g_80 := (congrFun eG_76 1005).trans ((va_up_ne _ _ (by decide)).trans ((congrFun hG 1005).trans gM_5))
          have g_81 := (congrFun eG_76 1006).trans ((va_up_ne _ _ (by decide)).trans ((congrFun hG 1006).trans gM_6))
          have g_82 := (congrFun eG_76 1007).trans ((va_up_ne _ _ (by decide)).trans ((congrFun hG 1007).trans gM_7))
          have g_83 := (congrFun eG_76 1008).trans ((va_up_ne _ _ (by decide)).trans ((congrFun hG 1008).trans gM_8))
          have g_84 := (congrFun eG_76 1009).trans ((va_up_ne _ _ (by decide)).trans ((congrFun hG 1009).trans gM_9))
          have g_85 := (congrFun eG_76 1010).trans ((va_up_ne _ _ (by decide)).trans ((congrFun hG 1010).trans gM_10))
          have g_86 := (congrFun eG_76 1011).trans ((va_up_ne _ _ (by decide)).trans ((congrFun hG 1011).trans gM_11))
          have g_87 := (congrFun eG_76 1012).trans ((va_up_ne _ _ (by decide)).trans ((congrFun hG 1012).trans gM_12))
          have g_88 := (congrFun eG_76 1013).trans ((va_up_ne _ _ (by decide)).trans ((congrFun hG 1013).trans gM_13))
          have g_89 := (congrFun eG_76 1014).trans ((va_up_ne _ _ (by decide)).trans ((congrFun hG 1014).trans gM_14))
          have g_90 := (congrFun eG_76 1015).trans ((va_up_ne _ _ (by decide)).trans ((congrFun hG 1015).trans gM_15))
          have g_91 := (congrFun eG_76 1016).trans ((va_up_ne _ _ (by decide)).trans ((congrFun hG 1016).trans gM_16))
          have g_92 := (congrFun eG_76 1021).trans ((va_up_ne _ _ (by decide)).trans ((congrFun hG 1021).trans gM_21))
          have g_93 := (congrFun eG_76 1022).trans ((va_up_ne _ _ (by decide)).trans ((congrFun hG 1022).trans gM_22))
          have g_94 := (congrFun eG_76 1023).trans ((va_up_ne _ _ (by decide)).trans ((congrFun hG 1023).trans gM_23))
          have g_95 := (congrFun eG_76 1024).trans ((va_up_ne _ _ (by decide)).trans ((congrFun hG 1024).trans gM_24))
          have g_96 := (congrFun eG_76 1025).trans ((va_up_ne _ _ (by decide)).trans ((congrFun hG 1025).trans gM_25))
          have hG : G_76 = gM dA ad A B (va_up S 0 1) sd G0 := by rw [eG_76, hG]; exact gM_uo (va_up S 0 1)
          refine lv_iload hx hb d_M_rules_72 (lv_at hl 0 rfl) ?_
          refine lv_if_eq (tgt := 98) hx hb d_M_rules_74 (by decide) (fun _ => ?_) (fun c9 => absurd (by decide) c9)
          exact m_vret hx hb hr hm (Or.inl ⟨(Or.inr (Or.inr (Or.inr (Or.inr (Or.inr (Or.inr (show p1 < 2 ∨ 12 < p1 from (Classical.not_not.mp (fun q => bv_eq w_75 c_48 (by rw [ex_73]; exact (inJ (p := p1) (lo := 2) (hi := 12) (a := 2) (b := 12) (by decide) (by decide)).mpr q)))))))))), by rw [hG]⟩) d_M_rules_98 hlocks
        · refine lv_iconst (v := 1) hx hb d_M_rules_51 (by decide) ?_
          refine lv_goto (tgt := 56) hx hb d_M_rules_52 (by decide) ?_
          refine lv_istore (lv' := [(5, .int 1), (0, .ref (ad 1000)), (1, .int p0), (2, .int p1), (3, .int p2), (4, .int p3)]) hx hb d_M_rules_56 hl (by decide) rfl (fun ls hl => ?_)
          refine lv_aload_n hx hb d_M_rules_58 rfl (lv_at hl 1 rfl) ?_
          refine lv_iload hx hb d_M_rules_59 (lv_at hl 0 rfl) ?_
          refine lv_if_eq (tgt := 68) hx hb d_M_rules_61 (by decide) (fun c9 => absurd c9 (by decide)) (fun _ => ?_)
          refine lv_iconst (v := 0) hx hb d_M_rules_64 (by decide) ?_
          refine lv_goto (tgt := 69) hx hb d_M_rules_65 (by decide) ?_
          refine m_put (v := .int 0) (ty := .int) (C := R_M) (T := T_M) (N := 28) hx hb hT in_M t_M tok_M nm_M hown hC.1 hm 1000 rfl ((congrFun hG 1000).trans gM_o) rfl 0 (by decide) (hT _ k_590) (fun _ h9 => h9) rfl (by decide +kernel) rfl rfl (Nat.le_of_ble_eq_true rfl) d_M_rules_69 (fun H locs hm => ?_)
          obtain ⟨G_97, eG_97⟩ : ∃ z : mG, z = va_up G 1000 (some (.inr (6, [.int 0, .long sd, .int (S 2), .ref (ad 1003), .ref (ad 1004), .ref (ad 1005), .ref (ad 1006), .ref (ad 1007), .ref (ad 1008), .ref (ad 1009), .ref (ad 1010), .ref (ad 1011), .ref (ad 1012), .ref (ad 1013), .ref (ad 1014), .ref (ad 1015), .ref (ad 1016), .int (S 17), .int (S 18), .int (S 19), .int (S 20), .ref (ad 1021), .ref (ad 1022), .ref (ad 1023), .ref (ad 1024), .ref (ad 1025), .int (S 26), .int (S 27)]))) := ⟨_, rfl⟩
          have hm : mS D mCl (mA ad G s.heap.size) s.heap ad G_97 H locs := by rw [eG_97]; exact hm
          have g_98 : G_97 1000 = some (.inr (6, [.int 0, .long sd, .int (S 2), .ref (ad 1003), .ref (ad 1004), .ref (ad 1005), .ref (ad 1006), .ref (ad 1007), .ref (ad 1008), .ref (ad 1009), .ref (ad 1010), .ref (ad 1011), .ref (ad 1012), .ref (ad 1013), .ref (ad 1014), .ref (ad 1015), .ref (ad 1016), .int (S 17), .int (S 18), .int (S 19), .int (S 20), .ref (ad 1021), .ref (ad 1022), .ref (ad 1023), .ref (ad 1024), .ref (ad 1025), .int (S 26), .int (S 27)])) := by rw [eG_97, va_up_self]
          have g_99 := (congrFun eG_97 1003).trans ((va_up_ne _ _ (by decide)).trans ((congrFun hG 1003).trans gM_3))
          have g_100 := (congrFun eG_97 1004).trans ((va_up_ne _ _ (by decide)).trans ((congrFun hG 1004).trans gM_4))
          have g_101 := (congrFun eG_97 1005).trans ((va_up_ne _ _ (by decide)).trans ((congrFun hG 1005).trans gM_5))
          have g_102 := (congrFun eG_97 1006).trans ((va_up_ne _ _ (by decide)).trans ((congrFun hG 1006).trans gM_6))
          have g_103 := (congrFun eG_97 1007).trans ((va_up_ne _ _ (by decide)).trans ((congrFun hG 1007).trans gM_7))
          have g_104 := (congrFun eG_97 1008).trans ((va_up_ne _ _ (by decide)).trans ((congrFun hG 1008).trans gM_8))
          have g_105 := (congrFun eG_97 1009).trans ((va_up_ne _ _ (by decide)).trans ((congrFun hG 1009).trans gM_9))
          have g_106 := (congrFun eG_97 1010).trans ((va_up_ne _ _ (by decide)).trans ((congrFun hG 1010).trans gM_10))
          have g_107 := (congrFun eG_97 1011).trans ((va_up_ne _ _ (by decide)).trans ((congrFun hG 1011).trans gM_11))
          have g_108 := (congrFun eG_97 1012).trans ((va_up_ne _ _ (by decide)).trans ((congrFun hG 1012).trans gM_12))
          have g_109 := (congrFun eG_97 1013).trans ((va_up_ne _ _ (by decide)).trans ((congrFun hG 1013).trans gM_13))
          have g_110 := (congrFun eG_97 1014).trans ((va_up_ne _ _ (by decide)).trans ((congrFun hG 1014).trans gM_14))
          have g_111 := (congrFun eG_97 1015).trans ((va_up_ne _ _ (by decide)).trans ((congrFun hG 1015).trans gM_15))
          have g_112 := (congrFun eG_97 1016).trans ((va_up_ne _ _ (by decide)).trans ((congrFun hG 1016).trans gM_16))
          have g_113 := (congrFun eG_97 1021).trans ((va_up_ne _ _ (by decide)).trans ((congrFun hG 1021).trans gM_21))
          have g_114 := (congrFun eG_97 1022).trans ((va_up_ne _ _ (by decide)).trans ((congrFun hG 1022).trans gM_22))
          have g_115 := (congrFun eG_97 1023).trans ((va_up_ne _ _ (by decide)).trans ((congrFun hG 1023).trans gM_23))
          have g_116 := (congrFun eG_97 1024).trans ((va_up_ne _ _ (by decide)).trans ((congrFun hG 1024).trans gM_24))
          have g_117 := (congrFun eG_97 1025).trans ((va_up_ne _ _ (by decide)).trans ((congrFun hG 1025).trans gM_25))
          have hG : G_97 = gM dA ad A B (va_up S 0 0) sd G0 := by rw [eG_97, hG]; exact gM_uo (va_up S 0 0)
          refine lv_iload hx hb d_M_rules_72 (lv_at hl 0 rfl) ?_
          refine lv_if_eq (tgt := 98) hx hb d_M_rules_74 (by decide) (fun c9 => absurd c9 (by decide)) (fun _ => ?_)
          refine lv_aload_n hx hb d_M_rules_77 rfl (lv_at hl 1 rfl) ?_
          refine lv_iload_n hx hb d_M_rules_78 rfl (lv_at hl 2 rfl) ?_
          refine m_put (v := .int p0) (ty := .int) (C := R_M) (T := T_M) (N := 28) hx hb hT in_M t_M tok_M nm_M hown hC.1 hm 1000 rfl g_98 rfl 17 (by decide) (hT _ k_607) (fun _ h9 => h9) rfl (by decide +kernel) rfl rfl (Nat.le_of_ble_eq_true rfl) d_M_rules_79 (fun H locs hm => ?_)
          obtain ⟨G_118, eG_118⟩ : ∃ z : mG, z = va_up G_97 1000 (some (.inr (6, [.int 0, .long sd, .int (S 2), .ref (ad 1003), .ref (ad 1004), .ref (ad 1005), .ref (ad 1006), .ref (ad 1007), .ref (ad 1008), .ref (ad 1009), .ref (ad 1010), .ref (ad 1011), .ref (ad 1012), .ref (ad 1013), .ref (ad 1014), .ref (ad 1015), .ref (ad 1016), .int p0, .int (S 18), .int (S 19), .int (S 20), .ref (ad 1021), .ref (ad 1022), .ref (ad 1023), .ref (ad 1024), .ref (ad 1025), .int (S 26), .int (S 27)]))) := ⟨_, rfl⟩
          have hm : mS D mCl (mA ad G s.heap.size) s.heap ad G_118 H locs := by rw [eG_118]; exact hm
          have g_119 : G_118 1000 = some (.inr (6, [.int 0, .long sd, .int (S 2), .ref (ad 1003), .ref (ad 1004), .ref (ad 1005), .ref (ad 1006), .ref (ad 1007), .ref (ad 1008), .ref (ad 1009), .ref (ad 1010), .ref (ad 1011), .ref (ad 1012), .ref (ad 1013), .ref (ad 1014), .ref (ad 1015), .ref (ad 1016), .int p0, .int (S 18), .int (S 19), .int (S 20), .ref (ad 1021), .ref (ad 1022), .ref (ad 1023), .ref (ad 1024), .ref (ad 1025), .int (S 26), .int (S 27)])) := by rw [eG_118, va_up_self]
          have g_120 := (congrFun eG_118 1003).trans ((va_up_ne _ _ (by decide)).trans g_99)
          have g_121 := (congrFun eG_118 1004).trans ((va_up_ne _ _ (by decide)).trans g_100)
          have g_122 := (congrFun eG_118 1005).trans ((va_up_ne _ _ (by decide)).trans g_101)
          have g_123 := (congrFun eG_118 1006).trans ((va_up_ne _ _ (by decide)).trans g_102)
          have g_124 := (congrFun eG_118 1007).trans ((va_up_ne _ _ (by decide)).trans g_103)
          have g_125 := (congrFun eG_118 1008).trans ((va_up_ne _ _ (by decide)).trans g_104)
          have g_126 := (congrFun eG_118 1009).trans ((va_up_ne _ _ (by decide)).trans g_105)
          have g_127 := (congrFun eG_118 1010).trans ((va_up_ne _ _ (by decide)).trans g_106)
          have g_128 := (congrFun eG_118 1011).trans ((va_up_ne _ _ (by decide)).trans g_107)
          have g_129 := (congrFun eG_118 1012).trans ((va_up_ne _ _ (by decide)).trans g_108)
          have g_130 := (congrFun eG_118 1013).trans ((va_up_ne _ _ (by decide)).trans g_109)
          have g_131 := (congrFun eG_118 1014).trans ((va_up_ne _ _ (by decide)).trans g_110)
          have g_132 := (congrFun eG_118 1015).trans ((va_up_ne _ _ (by decide)).trans g_111)
          have g_133 := (congrFun eG_118 1016).trans ((va_up_ne _ _ (by decide)).trans g_112)
          have g_134 := (congrFun eG_118 1021).trans ((va_up_ne _ _ (by decide)).trans g_113)
          have g_135 := (congrFun eG_118 1022).trans ((va_up_ne _ _ (by decide)).trans g_114)
          have g_136 := (congrFun eG_118 1023).trans ((va_up_ne _ _ (by decide)).trans g_115)
          have g_137 := (congrFun eG_118 1024).trans ((va_up_ne _ _ (by decide)).trans g_116)
          have g_138 := (congrFun eG_118 1025).trans ((va_up_ne _ _ (by decide)).trans g_117)
          have hG : G_118 = gM dA ad A B (va_up (va_up S 0 0) 17 p0) sd G0 := by rw [eG_118, hG]; exact gM_uo (va_up (va_up S 0 0) 17 p0)
          refine lv_aload_n hx hb d_M_rules_82 rfl (lv_at hl 1 rfl) ?_
          refine lv_iload_n hx hb d_M_rules_83 rfl (lv_at hl 3 rfl) ?_
          refine m_put (v := .int p1) (ty := .int) (C := R_M) (T := T_M) (N := 28) hx hb hT in_M t_M tok_M nm_M hown hC.1 hm 1000 rfl g_119 rfl 18 (by decide) (hT _ k_608) (fun _ h9 => h9) rfl (by decide +kernel) rfl rfl (Nat.le_of_ble_eq_true rfl) d_M_rules_84 (fun H locs hm => ?_)
          obtain ⟨G_139, eG_139⟩ : ∃ z : mG, z = va_up G_118 1000 (some (.inr (6, [.int 0, .long sd, .int (S 2), .ref (ad 1003), .ref (ad 1004), .ref (ad 1005), .ref (ad 1006), .ref (ad 1007), .ref (ad 1008), .ref (ad 1009), .ref (ad 1010), .ref (ad 1011), .ref (ad 1012), .ref (ad 1013), .ref (ad 1014), .ref (ad 1015), .ref (ad 1016), .int p0, .int p1, .int (S 19), .int (S 20), .ref (ad 1021), .ref (ad 1022), .ref (ad 1023), .ref (ad 1024), .ref (ad 1025), .int (S 26), .int (S 27)]))) := ⟨_, rfl⟩
          have hm : mS D mCl (mA ad G s.heap.size) s.heap ad G_139 H locs := by rw [eG_139]; exact hm
          have g_140 : G_139 1000 = some (.inr (6, [.int 0, .long sd, .int (S 2), .ref (ad 1003), .ref (ad 1004), .ref (ad 1005), .ref (ad 1006), .ref (ad 1007), .ref (ad 1008), .ref (ad 1009), .ref (ad 1010), .ref (ad 1011), .ref (ad 1012), .ref (ad 1013), .ref (ad 1014), .ref (ad 1015), .ref (ad 1016), .int p0, .int p1, .int (S 19), .int (S 20), .ref (ad 1021), .ref (ad 1022), .ref (ad 1023), .ref (ad 1024), .ref (ad 1025), .int (S 26), .int (S 27)])) := by rw [eG_139, va_up_self]
          have g_141 := (congrFun eG_139 1003).trans ((va_up_ne _ _ (by decide)).trans g_120)
          have g_142 := (congrFun eG_139 1004).trans ((va_up_ne _ _ (by decide)).trans g_121)
          have g_143 := (congrFun eG_139 1005).trans ((va_up_ne _ _ (by decide)).trans g_122)
          have g_144 := (congrFun eG_139 1006).trans ((va_up_ne _ _ (by decide)).trans g_123)
          have g_145 := (congrFun eG_139 1007).trans ((va_up_ne _ _ (by decide)).trans g_124)
          have g_146 := (congrFun eG_139 1008).trans ((va_up_ne _ _ (by decide)).trans g_125)
          have g_147 := (congrFun eG_139 1009).trans ((va_up_ne _ _ (by decide)).trans g_126)
          have g_148 := (congrFun eG_139 1010).trans ((va_up_ne _ _ (by decide)).trans g_127)
          have g_149 := (congrFun eG_139 1011).trans ((va_up_ne _ _ (by decide)).trans g_128)
          have g_150 := (congrFun eG_139 1012).trans ((va_up_ne _ _ (by decide)).trans g_129)
          have g_151 := (congrFun eG_139 1013).trans ((va_up_ne _ _ (by decide)).trans g_130)
          have g_152 := (congrFun eG_139 1014).trans ((va_up_ne _ _ (by decide)).trans g_131)
          have g_153 := (congrFun eG_139 1015).trans ((va_up_ne _ _ (by decide)).trans g_132)
          have g_154 := (congrFun eG_139 1016).trans ((va_up_ne _ _ (by decide)).trans g_133)
          have g_155 := (congrFun eG_139 1021).trans ((va_up_ne _ _ (by decide)).trans g_134)
          have g_156 := (congrFun eG_139 1022).trans ((va_up_ne _ _ (by decide)).trans g_135)
          have g_157 := (congrFun eG_139 1023).trans ((va_up_ne _ _ (by decide)).trans g_136)
          have g_158 := (congrFun eG_139 1024).trans ((va_up_ne _ _ (by decide)).trans g_137)
          have g_159 := (congrFun eG_139 1025).trans ((va_up_ne _ _ (by decide)).trans g_138)
          have hG : G_139 = gM dA ad A B (va_up (va_up (va_up S 0 0) 17 p0) 18 p1) sd G0 := by rw [eG_139, hG]; exact gM_uo (va_up (va_up (va_up S 0 0) 17 p0) 18 p1)
          refine lv_aload_n hx hb d_M_rules_87 rfl (lv_at hl 1 rfl) ?_
          refine lv_iload_n hx hb d_M_rules_88 rfl (lv_at hl 4 rfl) ?_
          refine m_put (v := .int p2) (ty := .int) (C := R_M) (T := T_M) (N := 28) hx hb hT in_M t_M tok_M nm_M hown hC.1 hm 1000 rfl g_140 rfl 19 (by decide) (hT _ k_609) (fun _ h9 => h9) rfl (by decide +kernel) rfl rfl (Nat.le_of_ble_eq_true rfl) d_M_rules_89 (fun H locs hm => ?_)
          obtain ⟨G_160, eG_160⟩ : ∃ z : mG, z = va_up G_139 1000 (some (.inr (6, [.int 0, .long sd, .int (S 2), .ref (ad 1003), .ref (ad 1004), .ref (ad 1005), .ref (ad 1006), .ref (ad 1007), .ref (ad 1008), .ref (ad 1009), .ref (ad 1010), .ref (ad 1011), .ref (ad 1012), .ref (ad 1013), .ref (ad 1014), .ref (ad 1015), .ref (ad 1016), .int p0, .int p1, .int p2, .int (S 20), .ref (ad 1021), .ref (ad 1022), .ref (ad 1023), .ref (ad 1024), .ref (ad 1025), .int (S 26), .int (S 27)]))) := ⟨_, rfl⟩
          have hm : mS D mCl (mA ad G s.heap.size) s.heap ad G_160 H locs := by rw [eG_160]; exact hm
          have g_161 : G_160 1000 = some (.inr (6, [.int 0, .long sd, .int (S 2), .ref (ad 1003), .ref (ad 1004), .ref (ad 1005), .ref (ad 1006), .ref (ad 1007), .ref (ad 1008), .ref (ad 1009), .ref (ad 1010), .ref (ad 1011), .ref (ad 1012), .ref (ad 1013), .ref (ad 1014), .ref (ad 1015), .ref (ad 1016), .int p0, .int p1, .int p2, .int (S 20), .ref (ad 1021), .ref (ad 1022), .ref (ad 1023), .ref (ad 1024), .ref (ad 1025), .int (S 26), .int (S 27)])) := by rw [eG_160, va_up_self]
          have g_162 := (congrFun eG_160 1003).trans ((va_up_ne _ _ (by decide)).trans g_141)
          have g_163 := (congrFun eG_160 1004).trans ((va_up_ne _ _ (by decide)).trans g_142)
          have g_164 := (congrFun eG_160 1005).trans ((va_up_ne _ _ (by decide)).trans g_143)
          have g_165 := (congrFun eG_160 1006).trans ((va_up_ne _ _ (by decide)).trans g_144)
          have g_166 := (congrFun eG_160 1007).trans ((va_up_ne _ _ (by decide)).trans g_145)
          have g_167 := (congrFun eG_160 1008).trans ((va_up_ne _ _ (by decide)).trans g_146)
          have g_168 := (congrFun eG_160 1009).trans ((va_up_ne _ _ (by decide)).trans g_147)
          have g_169 := (congrFun eG_160 1010).trans ((va_up_ne _ _ (by decide)).trans g_148)
          have g_170 := (congrFun eG_160 1011).trans ((va_up_ne _ _ (by decide)).trans g_149)
          have g_171 := (congrFun eG_160 1012).trans ((va_up_ne _ _ (by decide)).trans g_150)
          have g_172 := (congrFun eG_160 1013).trans ((va_up_ne _ _ (by decide)).trans g_151)
          have g_173 := (congrFun eG_160 1014).trans ((va_up_ne _ _ (by decide)).trans g_152)
          have g_174 := (congrFun eG_160 1015).trans ((va_up_ne _ _ (by decide)).trans g_153)
          have g_175 := (congrFun eG_160 1016).trans ((va_up_ne _ _ (by decide)).trans g_154)
          have g_176 := (congrFun eG_160 1021).trans ((va_up_ne _ _ (by decide)).trans g_155)
          have g_177 := (congrFun eG_160 1022).trans ((va_up_ne _ _ (by decide)).trans g_156)
          have g_178 := (congrFun eG_160 1023).trans ((va_up_ne _ _ (by decide)).trans g_157)
          have g_179 := (congrFun eG_160 1024).trans ((va_up_ne _ _ (by decide)).trans g_158)
          have g_180 := (congrFun eG_160 1025).trans ((va_up_ne _ _ (by decide)).trans g_159)
          have hG : G_160 = gM dA ad A B (va_up (va_up (va_up (va_up S 0 0) 17 p0) 18 p1) 19 p2) sd G0 := by rw [eG_160, hG]; exact gM_uo (va_up (va_up (va_up (va_up S 0 0) 17 p0) 18 p1) 19 p2)
          refine lv_aload_n hx hb d_M_rules_92 rfl (lv_at hl 1 rfl) ?_
          refine lv_iload hx hb d_M_rules_93 (lv_at hl 5 rfl) ?_
          refine m_put (v := .int p3) (ty := .int) (C := R_M) (T := T_M) (N := 28) hx hb hT in_M t_M tok_M nm_M hown hC.1 hm 1000 rfl g_161 rfl 20 (by decide) (hT _ k_610) (fun _ h9 => h9) rfl (by decide +kernel) rfl rfl (Nat.le_of_ble_eq_true rfl) d_M_rules_95 (fun H locs hm => ?_)
          obtain ⟨G_181, eG_181⟩ : ∃ z : mG, z = va_up G_160 1000 (some (.inr (6, [.int 0, .long sd, .int (S 2), .ref (ad 1003), .ref (ad 1004), .ref (ad 1005), .ref (ad 1006), .ref (ad 1007), .ref (ad 1008), .ref (ad 1009), .ref (ad 1010), .ref (ad 1011), .ref (ad 1012), .ref (ad 1013), .ref (ad 1014), .ref (ad 1015), .ref (ad 1016), .int p0, .int p1, .int p2, .int p3, .ref (ad 1021), .ref (ad 1022), .ref (ad 1023), .ref (ad 1024), .ref (ad 1025), .int (S 26), .int (S 27)]))) := ⟨_, rfl⟩
          have hm : mS D mCl (mA ad G s.heap.size) s.heap ad G_181 H locs := by rw [eG_181]; exact hm
          have g_182 : G_181 1000 = some (.inr (6, [.int 0, .long sd, .int (S 2), .ref (ad 1003), .ref (ad 1004), .ref (ad 1005), .ref (ad 1006), .ref (ad 1007), .ref (ad 1008), .ref (ad 1009), .ref (ad 1010), .ref (ad 1011), .ref (ad 1012), .ref (ad 1013), .ref (ad 1014), .ref (ad 1015), .ref (ad 1016), .int p0, .int p1, .int p2, .int p3, .ref (ad 1021), .ref (ad 1022), .ref (ad 1023), .ref (ad 1024), .ref (ad 1025), .int (S 26), .int (S 27)])) := by rw [eG_181, va_up_self]
          have g_183 := (congrFun eG_181 1003).trans ((va_up_ne _ _ (by decide)).trans g_162)
          have g_184 := (congrFun eG_181 1004).trans ((va_up_ne _ _ (by decide)).trans g_163)
          have g_185 := (congrFun eG_181 1005).trans ((va_up_ne _ _ (by decide)).trans g_164)
          have g_186 := (congrFun eG_181 1006).trans ((va_up_ne _ _ (by decide)).trans g_165)
          have g_187 := (congrFun eG_181 1007).trans ((va_up_ne _ _ (by decide)).trans g_166)
          have g_188 := (congrFun eG_181 1008).trans ((va_up_ne _ _ (by decide)).trans g_167)
          have g_189 := (congrFun eG_181 1009).trans ((va_up_ne _ _ (by decide)).trans g_168)
          have g_190 := (congrFun eG_181 1010).trans ((va_up_ne _ _ (by decide)).trans g_169)
          have g_191 := (congrFun eG_181 1011).trans ((va_up_ne _ _ (by decide)).trans g_170)
          have g_192 := (congrFun eG_181 1012).trans ((va_up_ne _ _ (by decide)).trans g_171)
          have g_193 := (congrFun eG_181 1013).trans ((va_up_ne _ _ (by decide)).trans g_172)
          have g_194 := (congrFun eG_181 1014).trans ((va_up_ne _ _ (by decide)).trans g_173)
          have g_195 := (congrFun eG_181 1015).trans ((va_up_ne _ _ (by decide)).trans g_174)
          have g_196 := (congrFun eG_181 1016).trans ((va_up_ne _ _ (by decide)).trans g_175)
          have g_197 := (congrFun eG_181 1021).trans ((va_up_ne _ _ (by decide)).trans g_176)
          have g_198 := (congrFun eG_181 1022).trans ((va_up_ne _ _ (by decide)).trans g_177)
          have g_199 := (congrFun eG_181 1023).trans ((va_up_ne _ _ (by decide)).trans g_178)
          have g_200 := (congrFun eG_181 1024).trans ((va_up_ne _ _ (by decide)).trans g_179)
          have g_201 := (congrFun eG_181 1025).trans ((va_up_ne _ _ (by decide)).trans g_180)
          have hG : G_181 = gM dA ad A B (va_up (va_up (va_up (va_up (va_up S 0 0) 17 p0) 18 p1) 19 p2) 20 p3) sd G0 := by rw [eG_181, hG]; exact gM_uo (va_up (va_up (va_up (va_up (va_up S 0 0) 17 p0) 18 p1) 19 p2) 20 p3)
          exact m_vret hx hb hr hm (Or.inr (⟨by
            have h0 : ¬ (p0 < 0 ∨ 1000000 < p0) := (inJ (p := p0) (lo := 0) (hi := 1000000) (a := 0) (b := 1000000) (by decide) (by decide)).mp (by have h9 := bv_ne w_3 c_9; rw [ex_1] at h9; exact h9)
            have h1 : ¬ (p2 < 0 ∨ 1000000 < p2) := (inJ (p := p2) (lo := 0) (hi := 1000000) (a := 0) (b := 1000000) (by decide) (by decide)).mp (by have h9 := bv_ne w_27 c_21; rw [ex_25] at h9; exact h9)
            have h2 : ¬ (p3 < 0 ∨ 1000000 < p3) := (inJ (p := p3) (lo := 0) (hi := 1000000) (a := 0) (b := 1000000) (by decide) (by decide)).mp (by have h9 := bv_ne w_51 c_34; rw [ex_49] at h9; exact h9)
            have h3 : ¬ (p1 < 2 ∨ 12 < p1) := (inJ (p := p1) (lo := 2) (hi := 12) (a := 2) (b := 12) (by decide) (by decide)).mp (by have h9 := bv_ne w_75 c_48; rw [ex_73] at h9; exact h9)
            exact fun h => h.elim (fun h => h0 (Or.inl h)) (fun h => h.elim (fun h => h0 (Or.inr h)) (fun h => h.elim (fun h => h1 (Or.inl h)) (fun h => h.elim (fun h => h1 (Or.inr h)) (fun h => h.elim (fun h => h2 (Or.inl h)) (fun h => h.elim (fun h => h2 (Or.inr h)) (h3)))))), by rw [hG]⟩)) d_M_rules_98 hlocks
