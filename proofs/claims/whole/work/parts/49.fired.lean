set_option maxHeartbeats 4000000 in
set_option maxRecDepth 100000 in
theorem c_M_reading (l : Launch) (D : va_G) (dA : Nat → ClassId) (ad : Nat → Nat) (G : mG) (sz : Nat) (A : Nat → Nat → Int32) (B : Nat → Nat → Int64) (S : Nat → Int32) (sd : Int64) (G0 : mG) (hG : G = gM dA ad A B S sd G0) (p0 p1 : Int32) (t b : Nat) (h24 : 24 * t + b < 288) (ep : p0 = nI t) (eb : p1 = nI b) : Met l y_M_reading (.code y_M_reading b_M_reading 3 (some .int) :: mBig) ({ frames := 0, cells := 0, slots := 0, locals := 0 }) (mPc [.ref (ad 1000), .int p0, .int p1] D mCl (mTys dA) mTx ad G sz) (mQi (fun (rv : Int32) (u : mU) => (rv = A 21 (24 * t + b)) ∧ u = (ad, G)) D mCl ad G sz) 0 0 (mA ad G sz) := by
  refine Met.ofW (cc := b_M_reading) (maxL := 3) (ret := (some .int)) (by decide) rfl ?_
  intro p e s m args below meth c s₁ BB hml hv
  obtain ⟨rfl, hsz, hw0, hC⟩ := hv
  have hx := BB.exec
  have hb := BB.bytes
  have hr := BB.returns
  have hts := atoms_spec (ws := .code y_M_reading b_M_reading 3 (some .int) :: mBig) BB.pre
  have hT : ∀ w ∈ mBig, w.before _ s = true := fun w h => hts w (List.mem_cons_of_mem _ h)
  have hown : s.vm.findClass "EdgeWearModel" = some m.cls := findClass_of_methodNamed BB.named
  have hlocks := BB.notSynchronized
  subst hsz
  have hm := mS.start hw0
  have hA : ∀ q : Nat, s.heap.size ≤ q → mA ad G s.heap.size q := fun q h => Or.inr h
  have hl := lv_entry ([.ref (ad 1000), .int p0, .int p1]) (n := 3) (Nat.le_of_ble_eq_true rfl)
  rw [lg_entry_eq]
  generalize (lg_sl ([.ref (ad 1000), .int p0, .int p1]) ++ List.replicate (3 - (lg_sl ([.ref (ad 1000), .int p0, .int p1])).length) Slot.unset).toArray = ls at hl ⊢
  have hl : lv_has ls 3 [(0, .ref (ad 1000)), (1, .int p0), (2, .int p1)] := hl
  refine lv_aload_n hx hb d_M_reading_0 rfl (lv_at hl 0 rfl) ?_
  refine m_get (v := .ref (ad 1021)) (C := R_M) (T := T_M) (N := 28) hx hb hT in_M hown hC.1 hm 1000 rfl ((congrFun hG 1000).trans gM_o) rfl 21 (by decide) (hT _ k_611) (fun _ h9 => h9) rfl d_M_reading_1 ?_
  refine lv_bipush (v := 24) hx hb d_M_reading_4 (by decide) ?_
  refine lv_iload_n hx hb d_M_reading_6 rfl (lv_at hl 1 rfl) ?_
  refine lv_imul hx hb d_M_reading_7 ?_
  refine lv_topi (fun x_1 ex_1 => ?_)
  refine lv_iload_n hx hb d_M_reading_8 rfl (lv_at hl 2 rfl) ?_
  refine lv_iadd hx hb d_M_reading_9 ?_
  refine lv_topi (fun x_2 ex_2 => ?_)
  have hix : x_2 = nI (24 * t + b) := by rw [ex_2, ex_1, ep, eb, show (24 : Int32) = nI 24 from rfl, pk_mul, nI_add]
  refine m_iald (v := A 21 (24 * t + b)) hx hb hC.1 hm 1021 rfl 0 ((congrFun hG 1021).trans gM_21) rfl (by rw [hix]; exact vp_in_nI (by omega) (by decide)) (by rw [hix, nI_clamp (by omega)]) d_M_reading_10 ?_
  exact m_iret (v := A 21 (24 * t + b)) hx hb hr hm (⟨rfl, rfl⟩) d_M_reading_11 hlocks

set_option maxHeartbeats 4000000 in
set_option maxRecDepth 100000 in
theorem c_M_apart (l : Launch) (D : va_G) (dA : Nat → ClassId) (ad : Nat → Nat) (G : mG) (sz : Nat) (p0 p1 : Int32) : Met l y_M_apart (.code y_M_apart b_M_apart 2 (some .int) :: mBig) ({ frames := 0, cells := 0, slots := 0, locals := 0 }) (mPc [.int p0, .int p1] D mCl (mTys dA) mTx ad G sz) (mQi (fun (rv : Int32) (u : mU) => (rv = if p0 < p1 then p1 - p0 else p0 - p1) ∧ u = (ad, G)) D mCl ad G sz) 0 0 (mA ad G sz) := by
  refine Met.ofW (cc := b_M_apart) (maxL := 2) (ret := (some .int)) (by decide) rfl ?_
  intro p e s m args below meth c s₁ BB hml hv
  obtain ⟨rfl, hsz, hw0, hC⟩ := hv
  have hx := BB.exec
  have hb := BB.bytes
  have hr := BB.returns
  have hts := atoms_spec (ws := .code y_M_apart b_M_apart 2 (some .int) :: mBig) BB.pre
  have hT : ∀ w ∈ mBig, w.before _ s = true := fun w h => hts w (List.mem_cons_of_mem _ h)
  have hown : s.vm.findClass "EdgeWearModel" = some m.cls := findClass_of_methodNamed BB.named
  have hlocks := BB.notSynchronized
  subst hsz
  have hm := mS.start hw0
  have hA : ∀ q : Nat, s.heap.size ≤ q → mA ad G s.heap.size q := fun q h => Or.inr h
  have hl := lv_entry ([.int p0, .int p1]) (n := 2) (Nat.le_of_ble_eq_true rfl)
  rw [lg_entry_eq]
  generalize (lg_sl ([.int p0, .int p1]) ++ List.replicate (2 - (lg_sl ([.int p0, .int p1])).length) Slot.unset).toArray = ls at hl ⊢
  have hl : lv_has ls 2 [(0, .int p0), (1, .int p1)] := hl
  refine lv_iload_n hx hb d_M_apart_0 rfl (lv_at hl 0 rfl) ?_
  refine lv_iload_n hx hb d_M_apart_1 rfl (lv_at hl 1 rfl) ?_
  refine lv_icmp_ge (tgt := 11) hx hb d_M_apart_2 (by decide) (fun c_2 => ?_) (fun c_2 => ?_)
  · refine lv_iload_n hx hb d_M_apart_11 rfl (lv_at hl 0 rfl) ?_
    refine lv_iload_n hx hb d_M_apart_12 rfl (lv_at hl 1 rfl) ?_
    refine lv_isub hx hb d_M_apart_13 ?_
    refine lv_topi (fun x_1 ex_1 => ?_)
    exact m_iret (v := x_1) hx hb hr hm (⟨by rw [ex_1, if_neg (Int32.not_lt.mpr c_2)], rfl⟩) d_M_apart_14 hlocks
  · refine lv_iload_n hx hb d_M_apart_5 rfl (lv_at hl 1 rfl) ?_
    refine lv_iload_n hx hb d_M_apart_6 rfl (lv_at hl 0 rfl) ?_
    refine lv_isub hx hb d_M_apart_7 ?_
    refine lv_topi (fun x_2 ex_2 => ?_)
    refine lv_goto (tgt := 14) hx hb d_M_apart_8 (by decide) ?_
    exact m_iret (v := x_2) hx hb hr hm (⟨by rw [ex_2, if_pos (Int32.not_le.mp c_2)], rfl⟩) d_M_apart_14 hlocks

set_option maxHeartbeats 4000000 in
set_option maxRecDepth 100000 in
theorem c_M_fired (l : Launch) (D : va_G) (dA : Nat → ClassId) (ad : Nat → Nat) (G : mG) (sz : Nat) (A : Nat → Nat → Int32) (B : Nat → Nat → Int64) (S : Nat → Int32) (sd : Int64) (G0 : mG) (hG : G = gM dA ad A B S sd G0) (p0 : Int32) (t R c9 : Nat) (ht : t < 12) (ep : p0 = nI t) (hR : S 18 = nI (R + 1)) (hR1 : 1 ≤ R) (hR2 : R ≤ 11) (hc9 : c9 ≤ 24) (ec9 : A 22 t = nI c9) (hrd : ∀ k, k < 24 → ∃ v, v ≤ 1000000 ∧ A 21 (24 * t + k) = nI v) : Met l y_M_fired (.code y_M_fired b_M_fired 5 (some .int) :: mBig) ({ frames := 1, cells := 0, slots := 0, locals := 22 }) (mPc [.ref (ad 1000), .int p0] D mCl (mTys dA) mTx ad G sz) (mQi (fun (rv : Int32) (u : mU) => (eFire rv (S 17 < A 21 (24 * t + 0)) (nI (R + 1) ≤ nI c9 ∧ ∀ i, i + 1 < R + 1 → A 21 (24 * t + (i + 1)) < A 21 (24 * t + i)) (nI (R + 1) ≤ nI c9 ∧ ∀ i, i < R + 1 → S 19 < A 21 (24 * t + i)) (3 ≤ nI c9 ∧ S 20 < (if 0 ≤ A 21 (24 * t + 0) - A 21 (24 * t + 1) then A 21 (24 * t + 0) - A 21 (24 * t + 1) else 0 - (A 21 (24 * t + 0) - A 21 (24 * t + 1))) + (if 0 ≤ A 21 (24 * t + 1) - A 21 (24 * t + 2) then A 21 (24 * t + 1) - A 21 (24 * t + 2) else 0 - (A 21 (24 * t + 1) - A 21 (24 * t + 2))))) ∧ u = (ad, G)) D mCl ad G sz) 0 0 (mA ad G sz) := by
  refine Met.ofW (cc := b_M_fired) (maxL := 5) (ret := (some .int)) (by decide) rfl ?_
  intro p e s m args below meth c s₁ BB hml hv
  obtain ⟨rfl, hsz, hw0, hC⟩ := hv
  have hx := BB.exec
  have hb := BB.bytes
  have hr := BB.returns
  have hts := atoms_spec (ws := .code y_M_fired b_M_fired 5 (some .int) :: mBig) BB.pre
  have hT : ∀ w ∈ mBig, w.before _ s = true := fun w h => hts w (List.mem_cons_of_mem _ h)
  have hown : s.vm.findClass "EdgeWearModel" = some m.cls := findClass_of_methodNamed BB.named
  have hlocks := BB.notSynchronized
  subst hsz
  have hm := mS.start hw0
  have hA : ∀ q : Nat, s.heap.size ≤ q → mA ad G s.heap.size q := fun q h => Or.inr h
  have hl := lv_entry ([.ref (ad 1000), .int p0]) (n := 5) (Nat.le_of_ble_eq_true rfl)
  rw [lg_entry_eq]
  generalize (lg_sl ([.ref (ad 1000), .int p0]) ++ List.replicate (5 - (lg_sl ([.ref (ad 1000), .int p0])).length) Slot.unset).toArray = ls at hl ⊢
  have hl : lv_has ls 5 [(0, .ref (ad 1000)), (1, .int p0)] := hl
  refine lv_aload_n hx hb d_M_fired_0 rfl (lv_at hl 0 rfl) ?_
  refine lv_iload_n hx hb d_M_fired_1 rfl (lv_at hl 1 rfl) ?_
  refine lv_iconst (v := 0) hx hb d_M_fired_2 (by decide) ?_
  refine m_roi (m_runV (As := [.int p0, .int 0]) (rest := []) ⟨hx, hb, hml, hown, hts⟩ (c_M_reading l D dA ad G s.heap.size A B S sd G0 hG p0 0 t 0 (by omega) ep rfl) (cwV 2 hts (gV k_793 k_790 k_792 ks_14 k_4) rfl rfl rfl (by decide +kernel) ⟨Nat.le_of_ble_eq_true rfl, Nat.le_of_ble_eq_true rfl⟩) hm hA hC 1000 rfl ((congrFun hG 1000).trans gM_o) rfl rfl rfl hl.1 rfl (Nat.le_of_ble_eq_true rfl) d_M_fired_3 ⟨Nat.le_of_ble_eq_true rfl, Nat.le_of_ble_eq_true rfl⟩) hm hA (fun r_1 H locs w_2 hm => ?_)
  refine lv_aload_n hx hb d_M_fired_6 rfl (lv_at hl 0 rfl) ?_
  refine m_get (v := .int (S 17)) (C := R_M) (T := T_M) (N := 28) hx hb hT in_M hown hC.1 hm 1000 rfl ((congrFun hG 1000).trans gM_o) rfl 17 (by decide) (hT _ k_607) (fun _ h9 => h9) rfl d_M_fired_7 ?_
  refine lv_icmp_le (tgt := 15) hx hb d_M_fired_10 (by decide) (fun c_10 => ?_) (fun c_10 => ?_)
  · refine lv_aload_n hx hb d_M_fired_15 rfl (lv_at hl 0 rfl) ?_
    refine m_get (v := .ref (ad 1022)) (C := R_M) (T := T_M) (N := 28) hx hb hT in_M hown hC.1 hm 1000 rfl ((congrFun hG 1000).trans gM_o) rfl 22 (by decide) (hT _ k_612) (fun _ h9 => h9) rfl d_M_fired_16 ?_
    refine lv_iload_n hx hb d_M_fired_19 rfl (lv_at hl 1 rfl) ?_
    refine m_iald (v := A 22 t) hx hb hC.1 hm 1022 rfl 0 ((congrFun hG 1022).trans gM_22) rfl (by rw [ep]; exact vp_in_nI (by omega) (by decide)) (by rw [ep, nI_clamp (by omega)]) d_M_fired_20 ?_
    refine lv_aload_n hx hb d_M_fired_21 rfl (lv_at hl 0 rfl) ?_
    refine m_get (v := .int (S 18)) (C := R_M) (T := T_M) (N := 28) hx hb hT in_M hown hC.1 hm 1000 rfl ((congrFun hG 1000).trans gM_o) rfl 18 (by decide) (hT _ k_608) (fun _ h9 => h9) rfl d_M_fired_22 ?_
    refine lv_icmp_lt (tgt := 32) hx hb d_M_fired_25 (by decide) (fun c_25 => ?_) (fun c_25 => ?_)
    · refine lv_iconst (v := 0) hx hb d_M_fired_32 (by decide) ?_
      refine lv_istore_n (lv' := [(2, .int 0), (0, .ref (ad 1000)), (1, .int p0)]) hx hb d_M_fired_33 rfl hl (by decide) rfl (fun ls hl => ?_)
      refine lv_aload_n hx hb d_M_fired_34 rfl (lv_at hl 1 rfl) ?_
      refine m_get (v := .ref (ad 1022)) (C := R_M) (T := T_M) (N := 28) hx hb hT in_M hown hC.1 hm 1000 rfl ((congrFun hG 1000).trans gM_o) rfl 22 (by decide) (hT _ k_612) (fun _ h9 => h9) rfl d_M_fired_35 ?_
      refine lv_iload_n hx hb d_M_fired_38 rfl (lv_at hl 2 rfl) ?_
      refine m_iald (v := A 22 t) hx hb hC.1 hm 1022 rfl 0 ((congrFun hG 1022).trans gM_22) rfl (by rw [ep]; exact vp_in_nI (by omega) (by decide)) (by rw [ep, nI_clamp (by omega)]) d_M_fired_39 ?_
      refine lv_aload_n hx hb d_M_fired_40 rfl (lv_at hl 1 rfl) ?_
      refine m_get (v := .int (S 18)) (C := R_M) (T := T_M) (N := 28) hx hb hT in_M hown hC.1 hm 1000 rfl ((congrFun hG 1000).trans gM_o) rfl 18 (by decide) (hT _ k_608) (fun _ h9 => h9) rfl d_M_fired_41 ?_
      refine lv_icmp_lt (tgt := 51) hx hb d_M_fired_44 (by decide) (fun _ => ?_) (fun c9 => absurd c_25 c9)
      refine lv_iconst (v := 0) hx hb d_M_fired_51 (by decide) ?_
      refine lv_istore_n (lv' := [(3, .int 0), (2, .int 0), (0, .ref (ad 1000)), (1, .int p0)]) hx hb d_M_fired_52 rfl hl (by decide) rfl (fun ls hl => ?_)
      refine lv_iconst (v := 0) hx hb d_M_fired_53 (by decide) ?_
      refine lv_istore (lv' := [(4, .int 0), (3, .int 0), (2, .int 0), (0, .ref (ad 1000)), (1, .int p0)]) hx hb d_M_fired_54 hl (by decide) rfl (fun ls hl => ?_)
      have hle : ¬ R + 1 ≤ c9 := by
        have h9 := c_25
        rw [hR, ec9] at h9
        have := (nI_ltI (by omega) (by omega)).mp h9
        omega
      refine m_loopH (nL := 5) (head := 56) (fun (q9 : Nat) => fun (x : Nat × Int32 × Int32) => match x with | (k, g, a) => k + q9 = 25 ∧ k ≤ 24 ∧ bv g (R + 1 ≤ c9 ∧ ∀ i, i < k → (i = R ∨ A 21 (24 * t + (i + 1)) < A 21 (24 * t + i))) ∧ bv a (R + 1 ≤ c9 ∧ ∀ i, i < k → S 19 < A 21 (24 * t + i)) ∧ k ≤ R + 1) (fun (x : Nat × Int32 × Int32) => match x with | (k, g, a) => [(0, .ref (ad 1000)), (1, .int p0), (2, .int g), (3, .int a), (4, .int (nI k))]) (fun _ => G) (fun ⟨k, g, a⟩ h => by have h1 := h.1; have h2 := h.2.1; omega) (fun q9 x ls H locs hI hl hm ih56 => ?_) (24) (0, 0, 0) (⟨by omega, by omega, bv0 (fun h => hle h.1), bv0 (fun h => hle h.1), by omega⟩) (lv_sub hl [3, 4, 2, 1, 0] rfl) hm
      obtain ⟨k, g, a⟩ := x
      replace hI : (fun (q9 : Nat) => k + q9 = 25 ∧ k ≤ 24 ∧ bv g (R + 1 ≤ c9 ∧ ∀ i, i < k → (i = R ∨ A 21 (24 * t + (i + 1)) < A 21 (24 * t + i))) ∧ bv a (R + 1 ≤ c9 ∧ ∀ i, i < k → S 19 < A 21 (24 * t + i)) ∧ k ≤ R + 1) (q9 + 1) := hI
      have hl : lv_has ls 5 [(0, .ref (ad 1000)), (1, .int p0), (2, .int g), (3, .int a), (4, .int (nI k))] := hl
      have hI1 : bv g (R + 1 ≤ c9 ∧ ∀ i, i < k → (i = R ∨ A 21 (24 * t + (i + 1)) < A 21 (24 * t + i))) := hI.2.2.1
      have hI2 : bv a (R + 1 ≤ c9 ∧ ∀ i, i < k → S 19 < A 21 (24 * t + i)) := hI.2.2.2.1
      have hI3 : k ≤ R + 1 := hI.2.2.2.2
      refine lv_iload hx hb d_M_fired_56 (lv_at hl 4 rfl) ?_
      refine lv_aload_n hx hb d_M_fired_58 rfl (lv_at hl 0 rfl) ?_
      refine m_get (v := .int (S 18)) (C := R_M) (T := T_M) (N := 28) hx hb hT in_M hown hC.1 hm 1000 rfl ((congrFun hG 1000).trans gM_o) rfl 18 (by decide) (hT _ k_608) (fun _ h9 => h9) rfl d_M_fired_59 ?_
      refine lv_icmp_ge (tgt := 146) hx hb d_M_fired_62 (by decide) (fun c_62 => ?_) (fun c_62 => ?_)
      · have hend : R + 1 ≤ k ∨ c9 ≤ k := Or.inl (by
          have h9 := c_62
          rw [hR] at h9
          exact (nI_leI (by omega) (by omega)).mp h9)
        have hg : bv g (nI (R + 1) ≤ nI c9 ∧ ∀ i, i + 1 < R + 1 → A 21 (24 * t + (i + 1)) < A 21 (24 * t + i)) := bv_iff hI1 (fireQ1 (f := fun q => A 21 (24 * t + q)) hR2 hc9 hI.2.2.2.2 hend)
        have ha : bv a (nI (R + 1) ≤ nI c9 ∧ ∀ i, i < R + 1 → S 19 < A 21 (24 * t + i)) := bv_iff hI2 (fireQ2 (f := fun q => A 21 (24 * t + q)) hR2 hc9 hI.2.2.2.2 hend)
        refine lv_iload_n hx hb d_M_fired_146 rfl (lv_at hl 2 rfl) ?_
        refine lv_if_ne (tgt := 154) hx hb d_M_fired_147 (by decide) (fun c_147 => ?_) (fun c_147 => ?_)
        · refine lv_iload_n hx hb d_M_fired_154 rfl (lv_at hl 2 rfl) ?_
          refine lv_if_eq (tgt := 162) hx hb d_M_fired_155 (by decide) (fun c_155 => ?_) (fun c_155 => ?_)
          · refine lv_iconst (v := 2) hx hb d_M_fired_162 (by decide) ?_
            exact m_iret (v := 2) hx hb hr hm (⟨Or.inr (Or.inr (Or.inl ⟨rfl, (fun h => Int32.not_lt.mpr (by have h9 := c_10; rw [w_2] at h9; exact h9) h), bv_eq hg c_155, absurd c_155 c_147⟩)), rfl⟩) d_M_fired_163 hlocks
          · refine lv_iconst (v := 1) hx hb d_M_fired_158 (by decide) ?_
            refine lv_goto (tgt := 163) hx hb d_M_fired_159 (by decide) ?_
            exact m_iret (v := 1) hx hb hr hm (⟨Or.inr (Or.inl ⟨rfl, (fun h => Int32.not_lt.mpr (by have h9 := c_10; rw [w_2] at h9; exact h9) h), bv_ne hg c_155⟩), rfl⟩) d_M_fired_163 hlocks
        · refine lv_iload_n hx hb d_M_fired_150 rfl (lv_at hl 3 rfl) ?_
          refine lv_if_eq (tgt := 164) hx hb d_M_fired_151 (by decide) (fun c_151 => ?_) (fun c_151 => ?_)
          · refine lv_aload_n hx hb d_M_fired_164 rfl (lv_at hl 0 rfl) ?_
            refine m_get (v := .ref (ad 1022)) (C := R_M) (T := T_M) (N := 28) hx hb hT in_M hown hC.1 hm 1000 rfl ((congrFun hG 1000).trans gM_o) rfl 22 (by decide) (hT _ k_612) (fun _ h9 => h9) rfl d_M_fired_165 ?_
            refine lv_iload_n hx hb d_M_fired_168 rfl (lv_at hl 1 rfl) ?_
            refine m_iald (v := A 22 t) hx hb hC.1 hm 1022 rfl 0 ((congrFun hG 1022).trans gM_22) rfl (by rw [ep]; exact vp_in_nI (by omega) (by decide)) (by rw [ep, nI_clamp (by omega)]) d_M_fired_169 ?_
            refine lv_iconst (v := 2) hx hb d_M_fired_170 (by decide) ?_
            refine lv_icmp_le (tgt := 216) hx hb d_M_fired_171 (by decide) (fun c_171 => ?_) (fun c_171 => ?_)
            · refine lv_iconst (v := 0) hx hb d_M_fired_216 (by decide) ?_
              refine lv_istore (lv' := [(4, .int 0), (0, .ref (ad 1000)), (1, .int p0), (2, .int g), (3, .int a)]) hx hb d_M_fired_217 hl (by decide) rfl (fun ls hl => ?_)
              refine lv_iload hx hb d_M_fired_219 (lv_at hl 0 rfl) ?_
              refine lv_if_eq (tgt := 228) hx hb d_M_fired_221 (by decide) (fun _ => ?_) (fun c9 => absurd (by decide) c9)
              refine lv_iconst (v := (-1)) hx hb d_M_fired_228 (by decide) ?_
              exact m_iret (v := (-1)) hx hb hr hm (⟨Or.inr (Or.inr (Or.inr (Or.inr ⟨rfl, (fun h => Int32.not_lt.mpr (by have h9 := c_10; rw [w_2] at h9; exact h9) h), bv_eq hg c_147, bv_eq ha c_151, fun h => not2.mpr h.1 (by have h9 := c_171; rw [ec9] at h9; exact h9)⟩))), rfl⟩) d_M_fired_229 hlocks
            · obtain ⟨v0, hv0, ev0⟩ := hrd 0 (by decide)
              obtain ⟨v1, hv1, ev1⟩ := hrd 1 (by decide)
              obtain ⟨v2, hv2, ev2⟩ := hrd 2 (by decide)
              refine lv_aload_n hx hb d_M_fired_174 rfl (lv_at hl 0 rfl) ?_
              refine lv_iload_n hx hb d_M_fired_175 rfl (lv_at hl 1 rfl) ?_
              refine lv_iconst (v := 0) hx hb d_M_fired_176 (by decide) ?_
              refine m_roi (m_runV (As := [.int p0, .int 0]) (rest := []) ⟨hx, hb, hml, hown, hts⟩ (c_M_reading l D dA ad G H.size A B S sd G0 hG p0 0 t 0 (by omega) ep rfl) (cwV 2 hts (gV k_793 k_790 k_792 ks_14 k_4) rfl rfl rfl (by decide +kernel) ⟨Nat.le_of_ble_eq_true rfl, Nat.le_of_ble_eq_true rfl⟩) hm hA hC 1000 rfl ((congrFun hG 1000).trans gM_o) rfl rfl rfl hl.1 rfl (Nat.le_of_ble_eq_true rfl) d_M_fired_177 ⟨Nat.le_of_ble_eq_true rfl, Nat.le_of_ble_eq_true rfl⟩) hm hA (fun r_3 H locs w_4 hm => ?_)
              refine lv_aload_n hx hb d_M_fired_180 rfl (lv_at hl 0 rfl) ?_
              refine lv_iload_n hx hb d_M_fired_181 rfl (lv_at hl 1 rfl) ?_
              refine lv_iconst (v := 1) hx hb d_M_fired_182 (by decide) ?_
              refine m_roi (m_runV (As := [.int p0, .int 1]) (rest := [.int r_3]) ⟨hx, hb, hml, hown, hts⟩ (c_M_reading l D dA ad G H.size A B S sd G0 hG p0 1 t 1 (by omega) ep rfl) (cwV 2 hts (gV k_793 k_790 k_792 ks_14 k_4) rfl rfl rfl (by decide +kernel) ⟨Nat.le_of_ble_eq_true rfl, Nat.le_of_ble_eq_true rfl⟩) hm hA hC 1000 rfl ((congrFun hG 1000).trans gM_o) rfl rfl rfl hl.1 rfl (Nat.le_of_ble_eq_true rfl) d_M_fired_183 ⟨Nat.le_of_ble_eq_true rfl, Nat.le_of_ble_eq_true rfl⟩) hm hA (fun r_5 H locs w_6 hm => ?_)
              refine m_roi (m_runS (As := [.int r_3, .int r_5]) (rest := []) ⟨hx, hb, hml, hown, hts⟩ (c_M_apart l D dA ad G H.size r_3 r_5) (va_cwS 2 hts (gS k_796 k_794 k_795 k_4) rfl rfl rfl (by decide +kernel) ⟨Nat.le_of_ble_eq_true rfl, Nat.le_of_ble_eq_true rfl⟩) hm hA hC rfl hl.1 rfl (Nat.le_of_ble_eq_true rfl) d_M_fired_186 ⟨Nat.le_of_ble_eq_true rfl, Nat.le_of_ble_eq_true rfl⟩) hm hA (fun r_7 H locs w_8 hm => ?_)
              refine lv_aload_n hx hb d_M_fired_189 rfl (lv_at hl 0 rfl) ?_
              refine lv_iload_n hx hb d_M_fired_190 rfl (lv_at hl 1 rfl) ?_
              refine lv_iconst (v := 1) hx hb d_M_fired_191 (by decide) ?_
              refine m_roi (m_runV (As := [.int p0, .int 1]) (rest := [.int r_7]) ⟨hx, hb, hml, hown, hts⟩ (c_M_reading l D dA ad G H.size A B S sd G0 hG p0 1 t 1 (by omega) ep rfl) (cwV 2 hts (gV k_793 k_790 k_792 ks_14 k_4) rfl rfl rfl (by decide +kernel) ⟨Nat.le_of_ble_eq_true rfl, Nat.le_of_ble_eq_true rfl⟩) hm hA hC 1000 rfl ((congrFun hG 1000).trans gM_o) rfl rfl rfl hl.1 rfl (Nat.le_of_ble_eq_true rfl) d_M_fired_192 ⟨Nat.le_of_ble_eq_true rfl, Nat.le_of_ble_eq_true rfl⟩) hm hA (fun r_9 H locs w_10 hm => ?_)
              refine lv_aload_n hx hb d_M_fired_195 rfl (lv_at hl 0 rfl) ?_
              refine lv_iload_n hx hb d_M_fired_196 rfl (lv_at hl 1 rfl) ?_
              refine lv_iconst (v := 2) hx hb d_M_fired_197 (by decide) ?_
              refine m_roi (m_runV (As := [.int p0, .int 2]) (rest := [.int r_9, .int r_7]) ⟨hx, hb, hml, hown, hts⟩ (c_M_reading l D dA ad G H.size A B S sd G0 hG p0 2 t 2 (by omega) ep rfl) (cwV 2 hts (gV k_793 k_790 k_792 ks_14 k_4) rfl rfl rfl (by decide +kernel) ⟨Nat.le_of_ble_eq_true rfl, Nat.le_of_ble_eq_true rfl⟩) hm hA hC 1000 rfl ((congrFun hG 1000).trans gM_o) rfl rfl rfl hl.1 rfl (Nat.le_of_ble_eq_true rfl) d_M_fired_198 ⟨Nat.le_of_ble_eq_true rfl, Nat.le_of_ble_eq_true rfl⟩) hm hA (fun r_11 H locs w_12 hm => ?_)
              refine m_roi (m_runS (As := [.int r_9, .int r_11]) (rest := [.int r_7]) ⟨hx, hb, hml, hown, hts⟩ (c_M_apart l D dA ad G H.size r_9 r_11) (va_cwS 2 hts (gS k_796 k_794 k_795 k_4) rfl rfl rfl (by decide +kernel) ⟨Nat.le_of_ble_eq_true rfl, Nat.le_of_ble_eq_true rfl⟩) hm hA hC rfl hl.1 rfl (Nat.le_of_ble_eq_true rfl) d_M_fired_201 ⟨Nat.le_of_ble_eq_true rfl, Nat.le_of_ble_eq_true rfl⟩) hm hA (fun r_13 H locs w_14 hm => ?_)
              refine lv_iadd hx hb d_M_fired_204 ?_
              refine lv_topi (fun x_15 ex_15 => ?_)
              have hap : x_15 = (if 0 ≤ A 21 (24 * t + 0) - A 21 (24 * t + 1) then A 21 (24 * t + 0) - A 21 (24 * t + 1) else 0 - (A 21 (24 * t + 0) - A 21 (24 * t + 1))) + (if 0 ≤ A 21 (24 * t + 1) - A 21 (24 * t + 2) then A 21 (24 * t + 1) - A 21 (24 * t + 2) else 0 - (A 21 (24 * t + 1) - A 21 (24 * t + 2))) := by
                rw [ex_15, w_8, w_14, w_4, w_6, w_10, w_12, apAbs hv0 hv1 ev0 ev1, apAbs hv1 hv2 ev1 ev2]
              refine lv_aload_n hx hb d_M_fired_205 rfl (lv_at hl 0 rfl) ?_
              refine m_get (v := .int (S 20)) (C := R_M) (T := T_M) (N := 28) hx hb hT in_M hown hC.1 hm 1000 rfl ((congrFun hG 1000).trans gM_o) rfl 20 (by decide) (hT _ k_610) (fun _ h9 => h9) rfl d_M_fired_206 ?_
              refine lv_icmp_le (tgt := 216) hx hb d_M_fired_209 (by decide) (fun c_209 => ?_) (fun c_209 => ?_)
              · refine lv_iconst (v := 0) hx hb d_M_fired_216 (by decide) ?_
                refine lv_istore (lv' := [(4, .int 0), (0, .ref (ad 1000)), (1, .int p0), (2, .int g), (3, .int a)]) hx hb d_M_fired_217 hl (by decide) rfl (fun ls hl => ?_)
                refine lv_iload hx hb d_M_fired_219 (lv_at hl 0 rfl) ?_
                refine lv_if_eq (tgt := 228) hx hb d_M_fired_221 (by decide) (fun _ => ?_) (fun c9 => absurd (by decide) c9)
                refine lv_iconst (v := (-1)) hx hb d_M_fired_228 (by decide) ?_
                exact m_iret (v := (-1)) hx hb hr hm (⟨Or.inr (Or.inr (Or.inr (Or.inr ⟨rfl, (fun h => Int32.not_lt.mpr (by have h9 := c_10; rw [w_2] at h9; exact h9) h), bv_eq hg c_147, bv_eq ha c_151, fun h => Int32.not_lt.mpr (by have h9 := c_209; rw [hap] at h9; exact h9) h.2⟩))), rfl⟩) d_M_fired_229 hlocks
              · refine lv_iconst (v := 1) hx hb d_M_fired_212 (by decide) ?_
                refine lv_goto (tgt := 217) hx hb d_M_fired_213 (by decide) ?_
                refine lv_istore (lv' := [(4, .int 1), (0, .ref (ad 1000)), (1, .int p0), (2, .int g), (3, .int a)]) hx hb d_M_fired_217 hl (by decide) rfl (fun ls hl => ?_)
                refine lv_iload hx hb d_M_fired_219 (lv_at hl 0 rfl) ?_
                refine lv_if_eq (tgt := 228) hx hb d_M_fired_221 (by decide) (fun c9 => absurd c9 (by decide)) (fun _ => ?_)
                refine lv_iconst (v := 3) hx hb d_M_fired_224 (by decide) ?_
                refine lv_goto (tgt := 229) hx hb d_M_fired_225 (by decide) ?_
                exact m_iret (v := 3) hx hb hr hm (⟨Or.inr (Or.inr (Or.inr (Or.inl ⟨rfl, (fun h => Int32.not_lt.mpr (by have h9 := c_10; rw [w_2] at h9; exact h9) h), bv_eq hg c_147, bv_eq ha c_151, not2.mp (by have h9 := c_171; rw [ec9] at h9; exact h9), by have h9 := Int32.not_le.mp c_209; rw [hap] at h9; exact h9⟩))), rfl⟩) d_M_fired_229 hlocks
          · refine lv_iload_n hx hb d_M_fired_154 rfl (lv_at hl 2 rfl) ?_
            refine lv_if_eq (tgt := 162) hx hb d_M_fired_155 (by decide) (fun c_155 => ?_) (fun c_155 => ?_)
            · refine lv_iconst (v := 2) hx hb d_M_fired_162 (by decide) ?_
              exact m_iret (v := 2) hx hb hr hm (⟨Or.inr (Or.inr (Or.inl ⟨rfl, (fun h => Int32.not_lt.mpr (by have h9 := c_10; rw [w_2] at h9; exact h9) h), bv_eq hg c_155, bv_ne ha c_151⟩)), rfl⟩) d_M_fired_163 hlocks
            · refine lv_iconst (v := 1) hx hb d_M_fired_158 (by decide) ?_
              refine lv_goto (tgt := 163) hx hb d_M_fired_159 (by decide) ?_
              exact m_iret (v := 1) hx hb hr hm (⟨Or.inr (Or.inl ⟨rfl, (fun h => Int32.not_lt.mpr (by have h9 := c_10; rw [w_2] at h9; exact h9) h), bv_ne hg c_155⟩), rfl⟩) d_M_fired_163 hlocks
      · refine lv_iload hx hb d_M_fired_65 (lv_at hl 4 rfl) ?_
        refine lv_aload_n hx hb d_M_fired_67 rfl (lv_at hl 0 rfl) ?_
        refine m_get (v := .ref (ad 1022)) (C := R_M) (T := T_M) (N := 28) hx hb hT in_M hown hC.1 hm 1000 rfl ((congrFun hG 1000).trans gM_o) rfl 22 (by decide) (hT _ k_612) (fun _ h9 => h9) rfl d_M_fired_68 ?_
        refine lv_iload_n hx hb d_M_fired_71 rfl (lv_at hl 1 rfl) ?_
        refine m_iald (v := A 22 t) hx hb hC.1 hm 1022 rfl 0 ((congrFun hG 1022).trans gM_22) rfl (by rw [ep]; exact vp_in_nI (by omega) (by decide)) (by rw [ep, nI_clamp (by omega)]) d_M_fired_72 ?_
        refine lv_icmp_ge (tgt := 146) hx hb d_M_fired_73 (by decide) (fun c_73 => ?_) (fun c_73 => ?_)
        · have hend : R + 1 ≤ k ∨ c9 ≤ k := Or.inr (by
            have h9 := c_73
            rw [ec9] at h9
            exact (nI_leI (by omega) (by omega)).mp h9)
          have hg : bv g (nI (R + 1) ≤ nI c9 ∧ ∀ i, i + 1 < R + 1 → A 21 (24 * t + (i + 1)) < A 21 (24 * t + i)) := bv_iff hI1 (fireQ1 (f := fun q => A 21 (24 * t + q)) hR2 hc9 hI.2.2.2.2 hend)
          have ha : bv a (nI (R + 1) ≤ nI c9 ∧ ∀ i, i < R + 1 → S 19 < A 21 (24 * t + i)) := bv_iff hI2 (fireQ2 (f := fun q => A 21 (24 * t + q)) hR2 hc9 hI.2.2.2.2 hend)
          refine lv_iload_n hx hb d_M_fired_146 rfl (lv_at hl 2 rfl) ?_
          refine lv_if_ne (tgt := 154) hx hb d_M_fired_147 (by decide) (fun c_147 => ?_) (fun c_147 => ?_)
          · refine lv_iload_n hx hb d_M_fired_154 rfl (lv_at hl 2 rfl) ?_
            refine lv_if_eq (tgt := 162) hx hb d_M_fired_155 (by decide) (fun c_155 => ?_) (fun c_155 => ?_)
            · refine lv_iconst (v := 2) hx hb d_M_fired_162 (by decide) ?_
              exact m_iret (v := 2) hx hb hr hm (⟨Or.inr (Or.inr (Or.inl ⟨rfl, (fun h => Int32.not_lt.mpr (by have h9 := c_10; rw [w_2] at h9; exact h9) h), bv_eq hg c_155, absurd c_155 c_147⟩)), rfl⟩) d_M_fired_163 hlocks
            · refine lv_iconst (v := 1) hx hb d_M_fired_158 (by decide) ?_
              refine lv_goto (tgt := 163) hx hb d_M_fired_159 (by decide) ?_
              exact m_iret (v := 1) hx hb hr hm (⟨Or.inr (Or.inl ⟨rfl, (fun h => Int32.not_lt.mpr (by have h9 := c_10; rw [w_2] at h9; exact h9) h), bv_ne hg c_155⟩), rfl⟩) d_M_fired_163 hlocks
          · refine lv_iload_n hx hb d_M_fired_150 rfl (lv_at hl 3 rfl) ?_
            refine lv_if_eq (tgt := 164) hx hb d_M_fired_151 (by decide) (fun c_151 => ?_) (fun c_151 => ?_)
            · refine lv_aload_n hx hb d_M_fired_164 rfl (lv_at hl 0 rfl) ?_
              refine m_get (v := .ref (ad 1022)) (C := R_M) (T := T_M) (N := 28) hx hb hT in_M hown hC.1 hm 1000 rfl ((congrFun hG 1000).trans gM_o) rfl 22 (by decide) (hT _ k_612) (fun _ h9 => h9) rfl d_M_fired_165 ?_
              refine lv_iload_n hx hb d_M_fired_168 rfl (lv_at hl 1 rfl) ?_
              refine m_iald (v := A 22 t) hx hb hC.1 hm 1022 rfl 0 ((congrFun hG 1022).trans gM_22) rfl (by rw [ep]; exact vp_in_nI (by omega) (by decide)) (by rw [ep, nI_clamp (by omega)]) d_M_fired_169 ?_
              refine lv_iconst (v := 2) hx hb d_M_fired_170 (by decide) ?_
              refine lv_icmp_le (tgt := 216) hx hb d_M_fired_171 (by decide) (fun c_171 => ?_) (fun c_171 => ?_)
              · refine lv_iconst (v := 0) hx hb d_M_fired_216 (by decide) ?_
                refine lv_istore (lv' := [(4, .int 0), (0, .ref (ad 1000)), (1, .int p0), (2, .int g), (3, .int a)]) hx hb d_M_fired_217 hl (by decide) rfl (fun ls hl => ?_)
                refine lv_iload hx hb d_M_fired_219 (lv_at hl 0 rfl) ?_
                refine lv_if_eq (tgt := 228) hx hb d_M_fired_221 (by decide) (fun _ => ?_) (fun c9 => absurd (by decide) c9)
                refine lv_iconst (v := (-1)) hx hb d_M_fired_228 (by decide) ?_
                exact m_iret (v := (-1)) hx hb hr hm (⟨Or.inr (Or.inr (Or.inr (Or.inr ⟨rfl, (fun h => Int32.not_lt.mpr (by have h9 := c_10; rw [w_2] at h9; exact h9) h), bv_eq hg c_147, bv_eq ha c_151, fun h => not2.mpr h.1 (by have h9 := c_171; rw [ec9] at h9; exact h9)⟩))), rfl⟩) d_M_fired_229 hlocks
              · obtain ⟨v0, hv0, ev0⟩ := hrd 0 (by decide)
                obtain ⟨v1, hv1, ev1⟩ := hrd 1 (by decide)
                obtain ⟨v2, hv2, ev2⟩ := hrd 2 (by decide)
                refine lv_aload_n hx hb d_M_fired_174 rfl (lv_at hl 0 rfl) ?_
                refine lv_iload_n hx hb d_M_fired_175 rfl (lv_at hl 1 rfl) ?_
                refine lv_iconst (v := 0) hx hb d_M_fired_176 (by decide) ?_
                refine m_roi (m_runV (As := [.int p0, .int 0]) (rest := []) ⟨hx, hb, hml, hown, hts⟩ (c_M_reading l D dA ad G H.size A B S sd G0 hG p0 0 t 0 (by omega) ep rfl) (cwV 2 hts (gV k_793 k_790 k_792 ks_14 k_4) rfl rfl rfl (by decide +kernel) ⟨Nat.le_of_ble_eq_true rfl, Nat.le_of_ble_eq_true rfl⟩) hm hA hC 1000 rfl ((congrFun hG 1000).trans gM_o) rfl rfl rfl hl.1 rfl (Nat.le_of_ble_eq_true rfl) d_M_fired_177 ⟨Nat.le_of_ble_eq_true rfl, Nat.le_of_ble_eq_true rfl⟩) hm hA (fun r_16 H locs w_17 hm => ?_)
                refine lv_aload_n hx hb d_M_fired_180 rfl (lv_at hl 0 rfl) ?_
                refine lv_iload_n hx hb d_M_fired_181 rfl (lv_at hl 1 rfl) ?_
                refine lv_iconst (v := 1) hx hb d_M_fired_182 (by decide) ?_
                refine m_roi (m_runV (As := [.int p0, .int 1]) (rest := [.int r_16]) ⟨hx, hb, hml, hown, hts⟩ (c_M_reading l D dA ad G H.size A B S sd G0 hG p0 1 t 1 (by omega) ep rfl) (cwV 2 hts (gV k_793 k_790 k_792 ks_14 k_4) rfl rfl rfl (by decide +kernel) ⟨Nat.le_of_ble_eq_true rfl, Nat.le_of_ble_eq_true rfl⟩) hm hA hC 1000 rfl ((congrFun hG 1000).trans gM_o) rfl rfl rfl hl.1 rfl (Nat.le_of_ble_eq_true rfl) d_M_fired_183 ⟨Nat.le_of_ble_eq_true rfl, Nat.le_of_ble_eq_true rfl⟩) hm hA (fun r_18 H locs w_19 hm => ?_)
                refine m_roi (m_runS (As := [.int r_16, .int r_18]) (rest := []) ⟨hx, hb, hml, hown, hts⟩ (c_M_apart l D dA ad G H.size r_16 r_18) (va_cwS 2 hts (gS k_796 k_794 k_795 k_4) rfl rfl rfl (by decide +kernel) ⟨Nat.le_of_ble_eq_true rfl, Nat.le_of_ble_eq_true rfl⟩) hm hA hC rfl hl.1 rfl (Nat.le_of_ble_eq_true rfl) d_M_fired_186 ⟨Nat.le_of_ble_eq_true rfl, Nat.le_of_ble_eq_true rfl⟩) hm hA (fun r_20 H locs w_21 hm => ?_)
                refine lv_aload_n hx hb d_M_fired_189 rfl (lv_at hl 0 rfl) ?_
                refine lv_iload_n hx hb d_M_fired_190 rfl (lv_at hl 1 rfl) ?_
                refine lv_iconst (v := 1) hx hb d_M_fired_191 (by decide) ?_
                refine m_roi (m_runV (As := [.int p0, .int 1]) (rest := [.int r_20]) ⟨hx, hb, hml, hown, hts⟩ (c_M_reading l D dA ad G H.size A B S sd G0 hG p0 1 t 1 (by omega) ep rfl) (cwV 2 hts (gV k_793 k_790 k_792 ks_14 k_4) rfl rfl rfl (by decide +kernel) ⟨Nat.le_of_ble_eq_true rfl, Nat.le_of_ble_eq_true rfl⟩) hm hA hC 1000 rfl ((congrFun hG 1000).trans gM_o) rfl rfl rfl hl.1 rfl (Nat.le_of_ble_eq_true rfl) d_M_fired_192 ⟨Nat.le_of_ble_eq_true rfl, Nat.le_of_ble_eq_true rfl⟩) hm hA (fun r_22 H locs w_23 hm => ?_)
                refine lv_aload_n hx hb d_M_fired_195 rfl (lv_at hl 0 rfl) ?_
                refine lv_iload_n hx hb d_M_fired_196 rfl (lv_at hl 1 rfl) ?_
                refine lv_iconst (v := 2) hx hb d_M_fired_197 (by decide) ?_
                refine m_roi (m_runV (As := [.int p0, .int 2]) (rest := [.int r_22, .int r_20]) ⟨hx, hb, hml, hown, hts⟩ (c_M_reading l D dA ad G H.size A B S sd G0 hG p0 2 t 2 (by omega) ep rfl) (cwV 2 hts (gV k_793 k_790 k_792 ks_14 k_4) rfl rfl rfl (by decide +kernel) ⟨Nat.le_of_ble_eq_true rfl, Nat.le_of_ble_eq_true rfl⟩) hm hA hC 1000 rfl ((congrFun hG 1000).trans gM_o) rfl rfl rfl hl.1 rfl (Nat.le_of_ble_eq_true rfl) d_M_fired_198 ⟨Nat.le_of_ble_eq_true rfl, Nat.le_of_ble_eq_true rfl⟩) hm hA (fun r_24 H locs w_25 hm => ?_)
                refine m_roi (m_runS (As := [.int r_22, .int r_24]) (rest := [.int r_20]) ⟨hx, hb, hml, hown, hts⟩ (c_M_apart l D dA ad G H.size r_22 r_24) (va_cwS 2 hts (gS k_796 k_794 k_795 k_4) rfl rfl rfl (by decide +kernel) ⟨Nat.le_of_ble_eq_true rfl, Nat.le_of_ble_eq_true rfl⟩) hm hA hC rfl hl.1 rfl (Nat.le_of_ble_eq_true rfl) d_M_fired_201 ⟨Nat.le_of_ble_eq_true rfl, Nat.le_of_ble_eq_true rfl⟩) hm hA (fun r_26 H locs w_27 hm => ?_)
                refine lv_iadd hx hb d_M_fired_204 ?_
                refine lv_topi (fun x_28 ex_28 => ?_)
                have hap : x_28 = (if 0 ≤ A 21 (24 * t + 0) - A 21 (24 * t + 1) then A 21 (24 * t + 0) - A 21 (24 * t + 1) else 0 - (A 21 (24 * t + 0) - A 21 (24 * t + 1))) + (if 0 ≤ A 21 (24 * t + 1) - A 21 (24 * t + 2) then A 21 (24 * t + 1) - A 21 (24 * t + 2) else 0 - (A 21 (24 * t + 1) - A 21 (24 * t + 2))) := by
                  rw [ex_28, w_21, w_27, w_17, w_19, w_23, w_25, apAbs hv0 hv1 ev0 ev1, apAbs hv1 hv2 ev1 ev2]
                refine lv_aload_n hx hb d_M_fired_205 rfl (lv_at hl 0 rfl) ?_
                refine m_get (v := .int (S 20)) (C := R_M) (T := T_M) (N := 28) hx hb hT in_M hown hC.1 hm 1000 rfl ((congrFun hG 1000).trans gM_o) rfl 20 (by decide) (hT _ k_610) (fun _ h9 => h9) rfl d_M_fired_206 ?_
                refine lv_icmp_le (tgt := 216) hx hb d_M_fired_209 (by decide) (fun c_209 => ?_) (fun c_209 => ?_)
                · refine lv_iconst (v := 0) hx hb d_M_fired_216 (by decide) ?_
                  refine lv_istore (lv' := [(4, .int 0), (0, .ref (ad 1000)), (1, .int p0), (2, .int g), (3, .int a)]) hx hb d_M_fired_217 hl (by decide) rfl (fun ls hl => ?_)
                  refine lv_iload hx hb d_M_fired_219 (lv_at hl 0 rfl) ?_
                  refine lv_if_eq (tgt := 228) hx hb d_M_fired_221 (by decide) (fun _ => ?_) (fun c9 => absurd (by decide) c9)
                  refine lv_iconst (v := (-1)) hx hb d_M_fired_228 (by decide) ?_
                  exact m_iret (v := (-1)) hx hb hr hm (⟨Or.inr (Or.inr (Or.inr (Or.inr ⟨rfl, (fun h => Int32.not_lt.mpr (by have h9 := c_10; rw [w_2] at h9; exact h9) h), bv_eq hg c_147, bv_eq ha c_151, fun h => Int32.not_lt.mpr (by have h9 := c_209; rw [hap] at h9; exact h9) h.2⟩))), rfl⟩) d_M_fired_229 hlocks
                · refine lv_iconst (v := 1) hx hb d_M_fired_212 (by decide) ?_
                  refine lv_goto (tgt := 217) hx hb d_M_fired_213 (by decide) ?_
                  refine lv_istore (lv' := [(4, .int 1), (0, .ref (ad 1000)), (1, .int p0), (2, .int g), (3, .int a)]) hx hb d_M_fired_217 hl (by decide) rfl (fun ls hl => ?_)
                  refine lv_iload hx hb d_M_fired_219 (lv_at hl 0 rfl) ?_
                  refine lv_if_eq (tgt := 228) hx hb d_M_fired_221 (by decide) (fun c9 => absurd c9 (by decide)) (fun _ => ?_)
                  refine lv_iconst (v := 3) hx hb d_M_fired_224 (by decide) ?_
                  refine lv_goto (tgt := 229) hx hb d_M_fired_225 (by decide) ?_
                  exact m_iret (v := 3) hx hb hr hm (⟨Or.inr (Or.inr (Or.inr (Or.inl ⟨rfl, (fun h => Int32.not_lt.mpr (by have h9 := c_10; rw [w_2] at h9; exact h9) h), bv_eq hg c_147, bv_eq ha c_151, not2.mp (by have h9 := c_171; rw [ec9] at h9; exact h9), by have h9 := Int32.not_le.mp c_209; rw [hap] at h9; exact h9⟩))), rfl⟩) d_M_fired_229 hlocks
            · refine lv_iload_n hx hb d_M_fired_154 rfl (lv_at hl 2 rfl) ?_
              refine lv_if_eq (tgt := 162) hx hb d_M_fired_155 (by decide) (fun c_155 => ?_) (fun c_155 => ?_)
              · refine lv_iconst (v := 2) hx hb d_M_fired_162 (by decide) ?_
                exact m_iret (v := 2) hx hb hr hm (⟨Or.inr (Or.inr (Or.inl ⟨rfl, (fun h => Int32.not_lt.mpr (by have h9 := c_10; rw [w_2] at h9; exact h9) h), bv_eq hg c_155, bv_ne ha c_151⟩)), rfl⟩) d_M_fired_163 hlocks
              · refine lv_iconst (v := 1) hx hb d_M_fired_158 (by decide) ?_
                refine lv_goto (tgt := 163) hx hb d_M_fired_159 (by decide) ?_
                exact m_iret (v := 1) hx hb hr hm (⟨Or.inr (Or.inl ⟨rfl, (fun h => Int32.not_lt.mpr (by have h9 := c_10; rw [w_2] at h9; exact h9) h), bv_ne hg c_155⟩), rfl⟩) d_M_fired_163 hlocks
        · have hkR : k < R + 1 := by
            have h9 := Int32.not_le.mp c_62
            rw [hR] at h9
            exact (nI_ltI (by omega) (by omega)).mp h9
          have hkc : k < c9 := by
            have h9 := Int32.not_le.mp c_73
            rw [ec9] at h9
            exact (nI_ltI (by omega) (by omega)).mp h9
          refine lv_iload_n hx hb d_M_fired_76 rfl (lv_at hl 2 rfl) ?_
          refine lv_if_eq (tgt := 114) hx hb d_M_fired_77 (by decide) (fun c_77 => ?_) (fun c_77 => ?_)
          · refine lv_iconst (v := 0) hx hb d_M_fired_114 (by decide) ?_
            have hg9 : bv 0 (R + 1 ≤ c9 ∧ ∀ i, i < (k + 1) → (i = R ∨ A 21 (24 * t + (i + 1)) < A 21 (24 * t + i))) := bv0 (fun h => bv_eq hI1 c_77 ⟨h.1, fun i hi => h.2 i (by omega)⟩)
            refine lv_istore_n (lv' := [(2, .int 0), (0, .ref (ad 1000)), (1, .int p0), (3, .int a), (4, .int (nI k))]) hx hb d_M_fired_115 rfl hl (by decide) rfl (fun ls hl => ?_)
            refine lv_iload_n hx hb d_M_fired_116 rfl (lv_at hl 3 rfl) ?_
            refine lv_if_eq (tgt := 138) hx hb d_M_fired_117 (by decide) (fun c_117 => ?_) (fun c_117 => ?_)
            · refine lv_iconst (v := 0) hx hb d_M_fired_138 (by decide) ?_
              have ha9 : bv 0 (R + 1 ≤ c9 ∧ ∀ i, i < (k + 1) → S 19 < A 21 (24 * t + i)) := bv0 (fun h => bv_eq hI2 c_117 ⟨h.1, fun i hi => h.2 i (by omega)⟩)
              refine lv_istore_n (lv' := [(3, .int 0), (2, .int 0), (0, .ref (ad 1000)), (1, .int p0), (4, .int (nI k))]) hx hb d_M_fired_139 rfl hl (by decide) rfl (fun ls hl => ?_)
              refine lv_iinc (v := nI (k + 1)) (lv' := [(4, .int (nI (k + 1))), (3, .int 0), (2, .int 0), (0, .ref (ad 1000)), (1, .int p0)]) hx hb d_M_fired_140 hl (k := 4) rfl (nI_1 _) (by decide) rfl (fun ls hl => ?_)
              refine lv_goto (tgt := 56) hx hb d_M_fired_143 (by decide) ?_
              exact ih56 (k + 1, 0, 0) ls H locs (⟨by omega, by omega, hg9, ha9, by omega⟩) (lv_sub hl [3, 4, 2, 1, 0] rfl) hm
            · refine lv_aload_n hx hb d_M_fired_120 rfl (lv_at hl 1 rfl) ?_
              refine lv_iload_n hx hb d_M_fired_121 rfl (lv_at hl 2 rfl) ?_
              refine lv_iload hx hb d_M_fired_122 (lv_at hl 4 rfl) ?_
              refine m_roi (m_runV (As := [.int p0, .int (nI k)]) (rest := []) ⟨hx, hb, hml, hown, hts⟩ (c_M_reading l D dA ad G H.size A B S sd G0 hG p0 (nI k) t k (by omega) ep rfl) (cwV 2 hts (gV k_793 k_790 k_792 ks_14 k_4) rfl rfl rfl (by decide +kernel) ⟨Nat.le_of_ble_eq_true rfl, Nat.le_of_ble_eq_true rfl⟩) hm hA hC 1000 rfl ((congrFun hG 1000).trans gM_o) rfl rfl rfl hl.1 rfl (Nat.le_of_ble_eq_true rfl) d_M_fired_124 ⟨Nat.le_of_ble_eq_true rfl, Nat.le_of_ble_eq_true rfl⟩) hm hA (fun r_29 H locs w_30 hm => ?_)
              refine lv_aload_n hx hb d_M_fired_127 rfl (lv_at hl 1 rfl) ?_
              refine m_get (v := .int (S 19)) (C := R_M) (T := T_M) (N := 28) hx hb hT in_M hown hC.1 hm 1000 rfl ((congrFun hG 1000).trans gM_o) rfl 19 (by decide) (hT _ k_609) (fun _ h9 => h9) rfl d_M_fired_128 ?_
              refine lv_icmp_le (tgt := 138) hx hb d_M_fired_131 (by decide) (fun c_131 => ?_) (fun c_131 => ?_)
              · refine lv_iconst (v := 0) hx hb d_M_fired_138 (by decide) ?_
                have ha9 : bv 0 (R + 1 ≤ c9 ∧ ∀ i, i < (k + 1) → S 19 < A 21 (24 * t + i)) := bv0 (fun h => by
                  have h9 := c_131
                  rw [w_30] at h9
                  exact Int32.not_lt.mpr h9 (h.2 k (by omega)))
                refine lv_istore_n (lv' := [(3, .int 0), (2, .int 0), (0, .ref (ad 1000)), (1, .int p0), (4, .int (nI k))]) hx hb d_M_fired_139 rfl hl (by decide) rfl (fun ls hl => ?_)
                refine lv_iinc (v := nI (k + 1)) (lv' := [(4, .int (nI (k + 1))), (3, .int 0), (2, .int 0), (0, .ref (ad 1000)), (1, .int p0)]) hx hb d_M_fired_140 hl (k := 4) rfl (nI_1 _) (by decide) rfl (fun ls hl => ?_)
                refine lv_goto (tgt := 56) hx hb d_M_fired_143 (by decide) ?_
                exact ih56 (k + 1, 0, 0) ls H locs (⟨by omega, by omega, hg9, ha9, by omega⟩) (lv_sub hl [3, 4, 2, 1, 0] rfl) hm
              · refine lv_iconst (v := 1) hx hb d_M_fired_134 (by decide) ?_
                refine lv_goto (tgt := 139) hx hb d_M_fired_135 (by decide) ?_
                have ha9 : bv 1 (R + 1 ≤ c9 ∧ ∀ i, i < (k + 1) → S 19 < A 21 (24 * t + i)) := bv1 ⟨(bv_ne hI2 c_117).1, fun i hi => by
                  by_cases q : i = k
                  · have h9 := Int32.not_le.mp c_131
                    rw [w_30] at h9
                    rw [q]
                    exact h9
                  · exact (bv_ne hI2 c_117).2 i (by omega)⟩
                refine lv_istore_n (lv' := [(3, .int 1), (2, .int 0), (0, .ref (ad 1000)), (1, .int p0), (4, .int (nI k))]) hx hb d_M_fired_139 rfl hl (by decide) rfl (fun ls hl => ?_)
                refine lv_iinc (v := nI (k + 1)) (lv' := [(4, .int (nI (k + 1))), (3, .int 1), (2, .int 0), (0, .ref (ad 1000)), (1, .int p0)]) hx hb d_M_fired_140 hl (k := 4) rfl (nI_1 _) (by decide) rfl (fun ls hl => ?_)
                refine lv_goto (tgt := 56) hx hb d_M_fired_143 (by decide) ?_
                exact ih56 (k + 1, 0, 1) ls H locs (⟨by omega, by omega, hg9, ha9, by omega⟩) (lv_sub hl [3, 4, 2, 1, 0] rfl) hm
          · refine lv_iload hx hb d_M_fired_80 (lv_at hl 4 rfl) ?_
            refine lv_aload_n hx hb d_M_fired_82 rfl (lv_at hl 0 rfl) ?_
            refine m_get (v := .int (S 18)) (C := R_M) (T := T_M) (N := 28) hx hb hT in_M hown hC.1 hm 1000 rfl ((congrFun hG 1000).trans gM_o) rfl 18 (by decide) (hT _ k_608) (fun _ h9 => h9) rfl d_M_fired_83 ?_
            refine lv_iconst (v := 1) hx hb d_M_fired_86 (by decide) ?_
            refine lv_isub hx hb d_M_fired_87 ?_
            refine lv_topi (fun x_31 ex_31 => ?_)
            refine lv_icmp_eq (tgt := 110) hx hb d_M_fired_88 (by decide) (fun c_88 => ?_) (fun c_88 => ?_)
            · refine lv_iconst (v := 1) hx hb d_M_fired_110 (by decide) ?_
              refine lv_goto (tgt := 115) hx hb d_M_fired_111 (by decide) ?_
              have hkr : k = R := by
                have h9 := c_88
                rw [ex_31, hR, nI_pred] at h9
                exact (nI_eq (by omega) (by omega)).mp h9
              have hg9 : bv 1 (R + 1 ≤ c9 ∧ ∀ i, i < (k + 1) → (i = R ∨ A 21 (24 * t + (i + 1)) < A 21 (24 * t + i))) := bv1 ⟨(bv_ne hI1 c_77).1, fun i hi => by
                by_cases q : i = k
                · exact Or.inl (q.trans hkr)
                · exact (bv_ne hI1 c_77).2 i (by omega)⟩
              refine lv_istore_n (lv' := [(2, .int 1), (0, .ref (ad 1000)), (1, .int p0), (3, .int a), (4, .int (nI k))]) hx hb d_M_fired_115 rfl hl (by decide) rfl (fun ls hl => ?_)
              refine lv_iload_n hx hb d_M_fired_116 rfl (lv_at hl 3 rfl) ?_
              refine lv_if_eq (tgt := 138) hx hb d_M_fired_117 (by decide) (fun c_117 => ?_) (fun c_117 => ?_)
              · refine lv_iconst (v := 0) hx hb d_M_fired_138 (by decide) ?_
                have ha9 : bv 0 (R + 1 ≤ c9 ∧ ∀ i, i < (k + 1) → S 19 < A 21 (24 * t + i)) := bv0 (fun h => bv_eq hI2 c_117 ⟨h.1, fun i hi => h.2 i (by omega)⟩)
                refine lv_istore_n (lv' := [(3, .int 0), (2, .int 1), (0, .ref (ad 1000)), (1, .int p0), (4, .int (nI k))]) hx hb d_M_fired_139 rfl hl (by decide) rfl (fun ls hl => ?_)
                refine lv_iinc (v := nI (k + 1)) (lv' := [(4, .int (nI (k + 1))), (3, .int 0), (2, .int 1), (0, .ref (ad 1000)), (1, .int p0)]) hx hb d_M_fired_140 hl (k := 4) rfl (nI_1 _) (by decide) rfl (fun ls hl => ?_)
                refine lv_goto (tgt := 56) hx hb d_M_fired_143 (by decide) ?_
                exact ih56 (k + 1, 1, 0) ls H locs (⟨by omega, by omega, hg9, ha9, by omega⟩) (lv_sub hl [3, 4, 2, 1, 0] rfl) hm
              · refine lv_aload_n hx hb d_M_fired_120 rfl (lv_at hl 1 rfl) ?_
                refine lv_iload_n hx hb d_M_fired_121 rfl (lv_at hl 2 rfl) ?_
                refine lv_iload hx hb d_M_fired_122 (lv_at hl 4 rfl) ?_
                refine m_roi (m_runV (As := [.int p0, .int (nI k)]) (rest := []) ⟨hx, hb, hml, hown, hts⟩ (c_M_reading l D dA ad G H.size A B S sd G0 hG p0 (nI k) t k (by omega) ep rfl) (cwV 2 hts (gV k_793 k_790 k_792 ks_14 k_4) rfl rfl rfl (by decide +kernel) ⟨Nat.le_of_ble_eq_true rfl, Nat.le_of_ble_eq_true rfl⟩) hm hA hC 1000 rfl ((congrFun hG 1000).trans gM_o) rfl rfl rfl hl.1 rfl (Nat.le_of_ble_eq_true rfl) d_M_fired_124 ⟨Nat.le_of_ble_eq_true rfl, Nat.le_of_ble_eq_true rfl⟩) hm hA (fun r_32 H locs w_33 hm => ?_)
                refine lv_aload_n hx hb d_M_fired_127 rfl (lv_at hl 1 rfl) ?_
                refine m_get (v := .int (S 19)) (C := R_M) (T := T_M) (N := 28) hx hb hT in_M hown hC.1 hm 1000 rfl ((congrFun hG 1000).trans gM_o) rfl 19 (by decide) (hT _ k_609) (fun _ h9 => h9) rfl d_M_fired_128 ?_
                refine lv_icmp_le (tgt := 138) hx hb d_M_fired_131 (by decide) (fun c_131 => ?_) (fun c_131 => ?_)
                · refine lv_iconst (v := 0) hx hb d_M_fired_138 (by decide) ?_
                  have ha9 : bv 0 (R + 1 ≤ c9 ∧ ∀ i, i < (k + 1) → S 19 < A 21 (24 * t + i)) := bv0 (fun h => by
                    have h9 := c_131
                    rw [w_33] at h9
                    exact Int32.not_lt.mpr h9 (h.2 k (by omega)))
                  refine lv_istore_n (lv' := [(3, .int 0), (2, .int 1), (0, .ref (ad 1000)), (1, .int p0), (4, .int (nI k))]) hx hb d_M_fired_139 rfl hl (by decide) rfl (fun ls hl => ?_)
                  refine lv_iinc (v := nI (k + 1)) (lv' := [(4, .int (nI (k + 1))), (3, .int 0), (2, .int 1), (0, .ref (ad 1000)), (1, .int p0)]) hx hb d_M_fired_140 hl (k := 4) rfl (nI_1 _) (by decide) rfl (fun ls hl => ?_)
                  refine lv_goto (tgt := 56) hx hb d_M_fired_143 (by decide) ?_
                  exact ih56 (k + 1, 1, 0) ls H locs (⟨by omega, by omega, hg9, ha9, by omega⟩) (lv_sub hl [3, 4, 2, 1, 0] rfl) hm
                · refine lv_iconst (v := 1) hx hb d_M_fired_134 (by decide) ?_
                  refine lv_goto (tgt := 139) hx hb d_M_fired_135 (by decide) ?_
                  have ha9 : bv 1 (R + 1 ≤ c9 ∧ ∀ i, i < (k + 1) → S 19 < A 21 (24 * t + i)) := bv1 ⟨(bv_ne hI2 c_117).1, fun i hi => by
                    by_cases q : i = k
                    · have h9 := Int32.not_le.mp c_131
                      rw [w_33] at h9
                      rw [q]
                      exact h9
                    · exact (bv_ne hI2 c_117).2 i (by omega)⟩
                  refine lv_istore_n (lv' := [(3, .int 1), (2, .int 1), (0, .ref (ad 1000)), (1, .int p0), (4, .int (nI k))]) hx hb d_M_fired_139 rfl hl (by decide) rfl (fun ls hl => ?_)
                  refine lv_iinc (v := nI (k + 1)) (lv' := [(4, .int (nI (k + 1))), (3, .int 1), (2, .int 1), (0, .ref (ad 1000)), (1, .int p0)]) hx hb d_M_fired_140 hl (k := 4) rfl (nI_1 _) (by decide) rfl (fun ls hl => ?_)
                  refine lv_goto (tgt := 56) hx hb d_M_fired_143 (by decide) ?_
                  exact ih56 (k + 1, 1, 1) ls H locs (⟨by omega, by omega, hg9, ha9, by omega⟩) (lv_sub hl [3, 4, 2, 1, 0] rfl) hm
            · refine lv_aload_n hx hb d_M_fired_91 rfl (lv_at hl 0 rfl) ?_
              refine lv_iload_n hx hb d_M_fired_92 rfl (lv_at hl 1 rfl) ?_
              refine lv_iload hx hb d_M_fired_93 (lv_at hl 4 rfl) ?_
              refine m_roi (m_runV (As := [.int p0, .int (nI k)]) (rest := []) ⟨hx, hb, hml, hown, hts⟩ (c_M_reading l D dA ad G H.size A B S sd G0 hG p0 (nI k) t k (by omega) ep rfl) (cwV 2 hts (gV k_793 k_790 k_792 ks_14 k_4) rfl rfl rfl (by decide +kernel) ⟨Nat.le_of_ble_eq_true rfl, Nat.le_of_ble_eq_true rfl⟩) hm hA hC 1000 rfl ((congrFun hG 1000).trans gM_o) rfl rfl rfl hl.1 rfl (Nat.le_of_ble_eq_true rfl) d_M_fired_95 ⟨Nat.le_of_ble_eq_true rfl, Nat.le_of_ble_eq_true rfl⟩) hm hA (fun r_34 H locs w_35 hm => ?_)
              refine lv_aload_n hx hb d_M_fired_98 rfl (lv_at hl 0 rfl) ?_
              refine lv_iload_n hx hb d_M_fired_99 rfl (lv_at hl 1 rfl) ?_
              refine lv_iload hx hb d_M_fired_100 (lv_at hl 4 rfl) ?_
              refine lv_iconst (v := 1) hx hb d_M_fired_102 (by decide) ?_
              refine lv_iadd hx hb d_M_fired_103 ?_
              refine lv_topi (fun x_36 ex_36 => ?_)
              refine m_roi (m_runV (As := [.int p0, .int x_36]) (rest := [.int r_34]) ⟨hx, hb, hml, hown, hts⟩ (c_M_reading l D dA ad G H.size A B S sd G0 hG p0 x_36 t (k + 1) (by omega) ep (by rw [ex_36, nI_1])) (cwV 2 hts (gV k_793 k_790 k_792 ks_14 k_4) rfl rfl rfl (by decide +kernel) ⟨Nat.le_of_ble_eq_true rfl, Nat.le_of_ble_eq_true rfl⟩) hm hA hC 1000 rfl ((congrFun hG 1000).trans gM_o) rfl rfl rfl hl.1 rfl (Nat.le_of_ble_eq_true rfl) d_M_fired_104 ⟨Nat.le_of_ble_eq_true rfl, Nat.le_of_ble_eq_true rfl⟩) hm hA (fun r_37 H locs w_38 hm => ?_)
              refine lv_icmp_le (tgt := 114) hx hb d_M_fired_107 (by decide) (fun c_107 => ?_) (fun c_107 => ?_)
              · refine lv_iconst (v := 0) hx hb d_M_fired_114 (by decide) ?_
                have hkr : ¬ k = R := fun q => by
                  have h9 := c_88
                  rw [ex_31, hR, nI_pred, q] at h9
                  exact h9 rfl
                have hg9 : bv 0 (R + 1 ≤ c9 ∧ ∀ i, i < (k + 1) → (i = R ∨ A 21 (24 * t + (i + 1)) < A 21 (24 * t + i))) := bv0 (fun h => by
                  have h9 := c_107
                  rw [w_35, w_38] at h9
                  rcases h.2 k (by omega) with q | q
                  · exact hkr q
                  · exact Int32.not_lt.mpr h9 q)
                refine lv_istore_n (lv' := [(2, .int 0), (0, .ref (ad 1000)), (1, .int p0), (3, .int a), (4, .int (nI k))]) hx hb d_M_fired_115 rfl hl (by decide) rfl (fun ls hl => ?_)
                refine lv_iload_n hx hb d_M_fired_116 rfl (lv_at hl 3 rfl) ?_
                refine lv_if_eq (tgt := 138) hx hb d_M_fired_117 (by decide) (fun c_117 => ?_) (fun c_117 => ?_)
                · refine lv_iconst (v := 0) hx hb d_M_fired_138 (by decide) ?_
                  have ha9 : bv 0 (R + 1 ≤ c9 ∧ ∀ i, i < (k + 1) → S 19 < A 21 (24 * t + i)) := bv0 (fun h => bv_eq hI2 c_117 ⟨h.1, fun i hi => h.2 i (by omega)⟩)
                  refine lv_istore_n (lv' := [(3, .int 0), (2, .int 0), (0, .ref (ad 1000)), (1, .int p0), (4, .int (nI k))]) hx hb d_M_fired_139 rfl hl (by decide) rfl (fun ls hl => ?_)
                  refine lv_iinc (v := nI (k + 1)) (lv' := [(4, .int (nI (k + 1))), (3, .int 0), (2, .int 0), (0, .ref (ad 1000)), (1, .int p0)]) hx hb d_M_fired_140 hl (k := 4) rfl (nI_1 _) (by decide) rfl (fun ls hl => ?_)
                  refine lv_goto (tgt := 56) hx hb d_M_fired_143 (by decide) ?_
                  exact ih56 (k + 1, 0, 0) ls H locs (⟨by omega, by omega, hg9, ha9, by omega⟩) (lv_sub hl [3, 4, 2, 1, 0] rfl) hm
                · refine lv_aload_n hx hb d_M_fired_120 rfl (lv_at hl 1 rfl) ?_
                  refine lv_iload_n hx hb d_M_fired_121 rfl (lv_at hl 2 rfl) ?_
                  refine lv_iload hx hb d_M_fired_122 (lv_at hl 4 rfl) ?_
                  refine m_roi (m_runV (As := [.int p0, .int (nI k)]) (rest := []) ⟨hx, hb, hml, hown, hts⟩ (c_M_reading l D dA ad G H.size A B S sd G0 hG p0 (nI k) t k (by omega) ep rfl) (cwV 2 hts (gV k_793 k_790 k_792 ks_14 k_4) rfl rfl rfl (by decide +kernel) ⟨Nat.le_of_ble_eq_true rfl, Nat.le_of_ble_eq_true rfl⟩) hm hA hC 1000 rfl ((congrFun hG 1000).trans gM_o) rfl rfl rfl hl.1 rfl (Nat.le_of_ble_eq_true rfl) d_M_fired_124 ⟨Nat.le_of_ble_eq_true rfl, Nat.le_of_ble_eq_true rfl⟩) hm hA (fun r_39 H locs w_40 hm => ?_)
                  refine lv_aload_n hx hb d_M_fired_127 rfl (lv_at hl 1 rfl) ?_
                  refine m_get (v := .int (S 19)) (C := R_M) (T := T_M) (N := 28) hx hb hT in_M hown hC.1 hm 1000 rfl ((congrFun hG 1000).trans gM_o) rfl 19 (by decide) (hT _ k_609) (fun _ h9 => h9) rfl d_M_fired_128 ?_
                  refine lv_icmp_le (tgt := 138) hx hb d_M_fired_131 (by decide) (fun c_131 => ?_) (fun c_131 => ?_)
                  · refine lv_iconst (v := 0) hx hb d_M_fired_138 (by decide) ?_
                    have ha9 : bv 0 (R + 1 ≤ c9 ∧ ∀ i, i < (k + 1) → S 19 < A 21 (24 * t + i)) := bv0 (fun h => by
                      have h9 := c_131
                      rw [w_40] at h9
                      exact Int32.not_lt.mpr h9 (h.2 k (by omega)))
                    refine lv_istore_n (lv' := [(3, .int 0), (2, .int 0), (0, .ref (ad 1000)), (1, .int p0), (4, .int (nI k))]) hx hb d_M_fired_139 rfl hl (by decide) rfl (fun ls hl => ?_)
                    refine lv_iinc (v := nI (k + 1)) (lv' := [(4, .int (nI (k + 1))), (3, .int 0), (2, .int 0), (0, .ref (ad 1000)), (1, .int p0)]) hx hb d_M_fired_140 hl (k := 4) rfl (nI_1 _) (by decide) rfl (fun ls hl => ?_)
                    refine lv_goto (tgt := 56) hx hb d_M_fired_143 (by decide) ?_
                    exact ih56 (k + 1, 0, 0) ls H locs (⟨by omega, by omega, hg9, ha9, by omega⟩) (lv_sub hl [3, 4, 2, 1, 0] rfl) hm
                  · refine lv_iconst (v := 1) hx hb d_M_fired_134 (by decide) ?_
                    refine lv_goto (tgt := 139) hx hb d_M_fired_135 (by decide) ?_
                    have ha9 : bv 1 (R + 1 ≤ c9 ∧ ∀ i, i < (k + 1) → S 19 < A 21 (24 * t + i)) := bv1 ⟨(bv_ne hI2 c_117).1, fun i hi => by
                      by_cases q : i = k
                      · have h9 := Int32.not_le.mp c_131
                        rw [w_40] at h9
                        rw [q]
                        exact h9
                      · exact (bv_ne hI2 c_117).2 i (by omega)⟩
                    refine lv_istore_n (lv' := [(3, .int 1), (2, .int 0), (0, .ref (ad 1000)), (1, .int p0), (4, .int (nI k))]) hx hb d_M_fired_139 rfl hl (by decide) rfl (fun ls hl => ?_)
                    refine lv_iinc (v := nI (k + 1)) (lv' := [(4, .int (nI (k + 1))), (3, .int 1), (2, .int 0), (0, .ref (ad 1000)), (1, .int p0)]) hx hb d_M_fired_140 hl (k := 4) rfl (nI_1 _) (by decide) rfl (fun ls hl => ?_)
                    refine lv_goto (tgt := 56) hx hb d_M_fired_143 (by decide) ?_
                    exact ih56 (k + 1, 0, 1) ls H locs (⟨by omega, by omega, hg9, ha9, by omega⟩) (lv_sub hl [3, 4, 2, 1, 0] rfl) hm
              · refine lv_iconst (v := 1) hx hb d_M_fired_110 (by decide) ?_
                refine lv_goto (tgt := 115) hx hb d_M_fired_111 (by decide) ?_
                have hg9 : bv 1 (R + 1 ≤ c9 ∧ ∀ i, i < (k + 1) → (i = R ∨ A 21 (24 * t + (i + 1)) < A 21 (24 * t + i))) := bv1 ⟨(bv_ne hI1 c_77).1, fun i hi => by
                  by_cases q : i = k
                  · have h9 := Int32.not_le.mp c_107
                    rw [w_35, w_38] at h9
                    rw [q]
                    exact Or.inr h9
                  · exact (bv_ne hI1 c_77).2 i (by omega)⟩
                refine lv_istore_n (lv' := [(2, .int 1), (0, .ref (ad 1000)), (1, .int p0), (3, .int a), (4, .int (nI k))]) hx hb d_M_fired_115 rfl hl (by decide) rfl (fun ls hl => ?_)
                refine lv_iload_n hx hb d_M_fired_116 rfl (lv_at hl 3 rfl) ?_
                refine lv_if_eq (tgt := 138) hx hb d_M_fired_117 (by decide) (fun c_117 => ?_) (fun c_117 => ?_)
                · refine lv_iconst (v := 0) hx hb d_M_fired_138 (by decide) ?_
                  have ha9 : bv 0 (R + 1 ≤ c9 ∧ ∀ i, i < (k + 1) → S 19 < A 21 (24 * t + i)) := bv0 (fun h => bv_eq hI2 c_117 ⟨h.1, fun i hi => h.2 i (by omega)⟩)
                  refine lv_istore_n (lv' := [(3, .int 0), (2, .int 1), (0, .ref (ad 1000)), (1, .int p0), (4, .int (nI k))]) hx hb d_M_fired_139 rfl hl (by decide) rfl (fun ls hl => ?_)
                  refine lv_iinc (v := nI (k + 1)) (lv' := [(4, .int (nI (k + 1))), (3, .int 0), (2, .int 1), (0, .ref (ad 1000)), (1, .int p0)]) hx hb d_M_fired_140 hl (k := 4) rfl (nI_1 _) (by decide) rfl (fun ls hl => ?_)
                  refine lv_goto (tgt := 56) hx hb d_M_fired_143 (by decide) ?_
                  exact ih56 (k + 1, 1, 0) ls H locs (⟨by omega, by omega, hg9, ha9, by omega⟩) (lv_sub hl [3, 4, 2, 1, 0] rfl) hm
                · refine lv_aload_n hx hb d_M_fired_120 rfl (lv_at hl 1 rfl) ?_
                  refine lv_iload_n hx hb d_M_fired_121 rfl (lv_at hl 2 rfl) ?_
                  refine lv_iload hx hb d_M_fired_122 (lv_at hl 4 rfl) ?_
                  refine m_roi (m_runV (As := [.int p0, .int (nI k)]) (rest := []) ⟨hx, hb, hml, hown, hts⟩ (c_M_reading l D dA ad G H.size A B S sd G0 hG p0 (nI k) t k (by omega) ep rfl) (cwV 2 hts (gV k_793 k_790 k_792 ks_14 k_4) rfl rfl rfl (by decide +kernel) ⟨Nat.le_of_ble_eq_true rfl, Nat.le_of_ble_eq_true rfl⟩) hm hA hC 1000 rfl ((congrFun hG 1000).trans gM_o) rfl rfl rfl hl.1 rfl (Nat.le_of_ble_eq_true rfl) d_M_fired_124 ⟨Nat.le_of_ble_eq_true rfl, Nat.le_of_ble_eq_true rfl⟩) hm hA (fun r_41 H locs w_42 hm => ?_)
                  refine lv_aload_n hx hb d_M_fired_127 rfl (lv_at hl 1 rfl) ?_
                  refine m_get (v := .int (S 19)) (C := R_M) (T := T_M) (N := 28) hx hb hT in_M hown hC.1 hm 1000 rfl ((congrFun hG 1000).trans gM_o) rfl 19 (by decide) (hT _ k_609) (fun _ h9 => h9) rfl d_M_fired_128 ?_
                  refine lv_icmp_le (tgt := 138) hx hb d_M_fired_131 (by decide) (fun c_131 => ?_) (fun c_131 => ?_)
                  · refine lv_iconst (v := 0) hx hb d_M_fired_138 (by decide) ?_
                    have ha9 : bv 0 (R + 1 ≤ c9 ∧ ∀ i, i < (k + 1) → S 19 < A 21 (24 * t + i)) := bv0 (fun h => by
                      have h9 := c_131
                      rw [w_42] at h9
                      exact Int32.not_lt.mpr h9 (h.2 k (by omega)))
                    refine lv_istore_n (lv' := [(3, .int 0), (2, .int 1), (0, .ref (ad 1000)), (1, .int p0), (4, .int (nI k))]) hx hb d_M_fired_139 rfl hl (by decide) rfl (fun ls hl => ?_)
                    refine lv_iinc (v := nI (k + 1)) (lv' := [(4, .int (nI (k + 1))), (3, .int 0), (2, .int 1), (0, .ref (ad 1000)), (1, .int p0)]) hx hb d_M_fired_140 hl (k := 4) rfl (nI_1 _) (by decide) rfl (fun ls hl => ?_)
                    refine lv_goto (tgt := 56) hx hb d_M_fired_143 (by decide) ?_
                    exact ih56 (k + 1, 1, 0) ls H locs (⟨by omega, by omega, hg9, ha9, by omega⟩) (lv_sub hl [3, 4, 2, 1, 0] rfl) hm
                  · refine lv_iconst (v := 1) hx hb d_M_fired_134 (by decide) ?_
                    refine lv_goto (tgt := 139) hx hb d_M_fired_135 (by decide) ?_
                    have ha9 : bv 1 (R + 1 ≤ c9 ∧ ∀ i, i < (k + 1) → S 19 < A 21 (24 * t + i)) := bv1 ⟨(bv_ne hI2 c_117).1, fun i hi => by
                      by_cases q : i = k
                      · have h9 := Int32.not_le.mp c_131
                        rw [w_42] at h9
                        rw [q]
                        exact h9
                      · exact (bv_ne hI2 c_117).2 i (by omega)⟩
                    refine lv_istore_n (lv' := [(3, .int 1), (2, .int 1), (0, .ref (ad 1000)), (1, .int p0), (4, .int (nI k))]) hx hb d_M_fired_139 rfl hl (by decide) rfl (fun ls hl => ?_)
                    refine lv_iinc (v := nI (k + 1)) (lv' := [(4, .int (nI (k + 1))), (3, .int 1), (2, .int 1), (0, .ref (ad 1000)), (1, .int p0)]) hx hb d_M_fired_140 hl (k := 4) rfl (nI_1 _) (by decide) rfl (fun ls hl => ?_)
                    refine lv_goto (tgt := 56) hx hb d_M_fired_143 (by decide) ?_
                    exact ih56 (k + 1, 1, 1) ls H locs (⟨by omega, by omega, hg9, ha9, by omega⟩) (lv_sub hl [3, 4, 2, 1, 0] rfl) hm
    · refine lv_iconst (v := 1) hx hb d_M_fired_28 (by decide) ?_
      refine lv_goto (tgt := 33) hx hb d_M_fired_29 (by decide) ?_
      refine lv_istore_n (lv' := [(2, .int 1), (0, .ref (ad 1000)), (1, .int p0)]) hx hb d_M_fired_33 rfl hl (by decide) rfl (fun ls hl => ?_)
      refine lv_aload_n hx hb d_M_fired_34 rfl (lv_at hl 1 rfl) ?_
      refine m_get (v := .ref (ad 1022)) (C := R_M) (T := T_M) (N := 28) hx hb hT in_M hown hC.1 hm 1000 rfl ((congrFun hG 1000).trans gM_o) rfl 22 (by decide) (hT _ k_612) (fun _ h9 => h9) rfl d_M_fired_35 ?_
      refine lv_iload_n hx hb d_M_fired_38 rfl (lv_at hl 2 rfl) ?_
      refine m_iald (v := A 22 t) hx hb hC.1 hm 1022 rfl 0 ((congrFun hG 1022).trans gM_22) rfl (by rw [ep]; exact vp_in_nI (by omega) (by decide)) (by rw [ep, nI_clamp (by omega)]) d_M_fired_39 ?_
      refine lv_aload_n hx hb d_M_fired_40 rfl (lv_at hl 1 rfl) ?_
      refine m_get (v := .int (S 18)) (C := R_M) (T := T_M) (N := 28) hx hb hT in_M hown hC.1 hm 1000 rfl ((congrFun hG 1000).trans gM_o) rfl 18 (by decide) (hT _ k_608) (fun _ h9 => h9) rfl d_M_fired_41 ?_
      refine lv_icmp_lt (tgt := 51) hx hb d_M_fired_44 (by decide) (fun c9 => absurd c9 c_25) (fun _ => ?_)
      refine lv_iconst (v := 1) hx hb d_M_fired_47 (by decide) ?_
      refine lv_goto (tgt := 52) hx hb d_M_fired_48 (by decide) ?_
      refine lv_istore_n (lv' := [(3, .int 1), (2, .int 1), (0, .ref (ad 1000)), (1, .int p0)]) hx hb d_M_fired_52 rfl hl (by decide) rfl (fun ls hl => ?_)
      refine lv_iconst (v := 0) hx hb d_M_fired_53 (by decide) ?_
      refine lv_istore (lv' := [(4, .int 0), (3, .int 1), (2, .int 1), (0, .ref (ad 1000)), (1, .int p0)]) hx hb d_M_fired_54 hl (by decide) rfl (fun ls hl => ?_)
      have hle : R + 1 ≤ c9 := by
        have h9 := Int32.not_lt.mp c_25
        rw [hR, ec9] at h9
        exact (nI_leI (by omega) (by omega)).mp h9
      refine m_loopH (nL := 5) (head := 56) (fun (q9 : Nat) => fun (x : Nat × Int32 × Int32) => match x with | (k, g, a) => k + q9 = 25 ∧ k ≤ 24 ∧ bv g (R + 1 ≤ c9 ∧ ∀ i, i < k → (i = R ∨ A 21 (24 * t + (i + 1)) < A 21 (24 * t + i))) ∧ bv a (R + 1 ≤ c9 ∧ ∀ i, i < k → S 19 < A 21 (24 * t + i)) ∧ k ≤ R + 1) (fun (x : Nat × Int32 × Int32) => match x with | (k, g, a) => [(0, .ref (ad 1000)), (1, .int p0), (2, .int g), (3, .int a), (4, .int (nI k))]) (fun _ => G) (fun ⟨k, g, a⟩ h => by have h1 := h.1; have h2 := h.2.1; omega) (fun q9 x ls H locs hI hl hm ih56 => ?_) (24) (0, 1, 1) (⟨by omega, by omega, bv1 ⟨hle, fun i hi => absurd hi (Nat.not_lt_zero i)⟩, bv1 ⟨hle, fun i hi => absurd hi (Nat.not_lt_zero i)⟩, by omega⟩) (lv_sub hl [3, 4, 2, 1, 0] rfl) hm
      obtain ⟨k, g, a⟩ := x
      replace hI : (fun (q9 : Nat) => k + q9 = 25 ∧ k ≤ 24 ∧ bv g (R + 1 ≤ c9 ∧ ∀ i, i < k → (i = R ∨ A 21 (24 * t + (i + 1)) < A 21 (24 * t + i))) ∧ bv a (R + 1 ≤ c9 ∧ ∀ i, i < k → S 19 < A 21 (24 * t + i)) ∧ k ≤ R + 1) (q9 + 1) := hI
      have hl : lv_has ls 5 [(0, .ref (ad 1000)), (1, .int p0), (2, .int g), (3, .int a), (4, .int (nI k))] := hl
      have hI1 : bv g (R + 1 ≤ c9 ∧ ∀ i, i < k → (i = R ∨ A 21 (24 * t + (i + 1)) < A 21 (24 * t + i))) := hI.2.2.1
      have hI2 : bv a (R + 1 ≤ c9 ∧ ∀ i, i < k → S 19 < A 21 (24 * t + i)) := hI.2.2.2.1
      have hI3 : k ≤ R + 1 := hI.2.2.2.2
      refine lv_iload hx hb d_M_fired_56 (lv_at hl 4 rfl) ?_
      refine lv_aload_n hx hb d_M_fired_58 rfl (lv_at hl 0 rfl) ?_
      refine m_get (v := .int (S 18)) (C := R_M) (T := T_M) (N := 28) hx hb hT in_M hown hC.1 hm 1000 rfl ((congrFun hG 1000).trans gM_o) rfl 18 (by decide) (hT _ k_608) (fun _ h9 => h9) rfl d_M_fired_59 ?_
      refine lv_icmp_ge (tgt := 146) hx hb d_M_fired_62 (by decide) (fun c_62 => ?_) (fun c_62 => ?_)
      · have hend : R + 1 ≤ k ∨ c9 ≤ k := Or.inl (by
          have h9 := c_62
          rw [hR] at h9
          exact (nI_leI (by omega) (by omega)).mp h9)
        have hg : bv g (nI (R + 1) ≤ nI c9 ∧ ∀ i, i + 1 < R + 1 → A 21 (24 * t + (i + 1)) < A 21 (24 * t + i)) := bv_iff hI1 (fireQ1 (f := fun q => A 21 (24 * t + q)) hR2 hc9 hI.2.2.2.2 hend)
        have ha : bv a (nI (R + 1) ≤ nI c9 ∧ ∀ i, i < R + 1 → S 19 < A 21 (24 * t + i)) := bv_iff hI2 (fireQ2 (f := fun q => A 21 (24 * t + q)) hR2 hc9 hI.2.2.2.2 hend)
        refine lv_iload_n hx hb d_M_fired_146 rfl (lv_at hl 2 rfl) ?_
        refine lv_if_ne (tgt := 154) hx hb d_M_fired_147 (by decide) (fun c_147 => ?_) (fun c_147 => ?_)
        · refine lv_iload_n hx hb d_M_fired_154 rfl (lv_at hl 2 rfl) ?_
          refine lv_if_eq (tgt := 162) hx hb d_M_fired_155 (by decide) (fun c_155 => ?_) (fun c_155 => ?_)
          · refine lv_iconst (v := 2) hx hb d_M_fired_162 (by decide) ?_
            exact m_iret (v := 2) hx hb hr hm (⟨Or.inr (Or.inr (Or.inl ⟨rfl, (fun h => Int32.not_lt.mpr (by have h9 := c_10; rw [w_2] at h9; exact h9) h), bv_eq hg c_155, absurd c_155 c_147⟩)), rfl⟩) d_M_fired_163 hlocks
          · refine lv_iconst (v := 1) hx hb d_M_fired_158 (by decide) ?_
            refine lv_goto (tgt := 163) hx hb d_M_fired_159 (by decide) ?_
            exact m_iret (v := 1) hx hb hr hm (⟨Or.inr (Or.inl ⟨rfl, (fun h => Int32.not_lt.mpr (by have h9 := c_10; rw [w_2] at h9; exact h9) h), bv_ne hg c_155⟩), rfl⟩) d_M_fired_163 hlocks
        · refine lv_iload_n hx hb d_M_fired_150 rfl (lv_at hl 3 rfl) ?_
          refine lv_if_eq (tgt := 164) hx hb d_M_fired_151 (by decide) (fun c_151 => ?_) (fun c_151 => ?_)
          · refine lv_aload_n hx hb d_M_fired_164 rfl (lv_at hl 0 rfl) ?_
            refine m_get (v := .ref (ad 1022)) (C := R_M) (T := T_M) (N := 28) hx hb hT in_M hown hC.1 hm 1000 rfl ((congrFun hG 1000).trans gM_o) rfl 22 (by decide) (hT _ k_612) (fun _ h9 => h9) rfl d_M_fired_165 ?_
            refine lv_iload_n hx hb d_M_fired_168 rfl (lv_at hl 1 rfl) ?_
            refine m_iald (v := A 22 t) hx hb hC.1 hm 1022 rfl 0 ((congrFun hG 1022).trans gM_22) rfl (by rw [ep]; exact vp_in_nI (by omega) (by decide)) (by rw [ep, nI_clamp (by omega)]) d_M_fired_169 ?_
            refine lv_iconst (v := 2) hx hb d_M_fired_170 (by decide) ?_
            refine lv_icmp_le (tgt := 216) hx hb d_M_fired_171 (by decide) (fun c_171 => ?_) (fun c_171 => ?_)
            · refine lv_iconst (v := 0) hx hb d_M_fired_216 (by decide) ?_
              refine lv_istore (lv' := [(4, .int 0), (0, .ref (ad 1000)), (1, .int p0), (2, .int g), (3, .int a)]) hx hb d_M_fired_217 hl (by decide) rfl (fun ls hl => ?_)
              refine lv_iload hx hb d_M_fired_219 (lv_at hl 0 rfl) ?_
              refine lv_if_eq (tgt := 228) hx hb d_M_fired_221 (by decide) (fun _ => ?_) (fun c9 => absurd (by decide) c9)
              refine lv_iconst (v := (-1)) hx hb d_M_fired_228 (by decide) ?_
              exact m_iret (v := (-1)) hx hb hr hm (⟨Or.inr (Or.inr (Or.inr (Or.inr ⟨rfl, (fun h => Int32.not_lt.mpr (by have h9 := c_10; rw [w_2] at h9; exact h9) h), bv_eq hg c_147, bv_eq ha c_151, fun h => not2.mpr h.1 (by have h9 := c_171; rw [ec9] at h9; exact h9)⟩))), rfl⟩) d_M_fired_229 hlocks
            · obtain ⟨v0, hv0, ev0⟩ := hrd 0 (by decide)
              obtain ⟨v1, hv1, ev1⟩ := hrd 1 (by decide)
              obtain ⟨v2, hv2, ev2⟩ := hrd 2 (by decide)
              refine lv_aload_n hx hb d_M_fired_174 rfl (lv_at hl 0 rfl) ?_
              refine lv_iload_n hx hb d_M_fired_175 rfl (lv_at hl 1 rfl) ?_
              refine lv_iconst (v := 0) hx hb d_M_fired_176 (by decide) ?_
              refine m_roi (m_runV (As := [.int p0, .int 0]) (rest := []) ⟨hx, hb, hml, hown, hts⟩ (c_M_reading l D dA ad G H.size A B S sd G0 hG p0 0 t 0 (by omega) ep rfl) (cwV 2 hts (gV k_793 k_790 k_792 ks_14 k_4) rfl rfl rfl (by decide +kernel) ⟨Nat.le_of_ble_eq_true rfl, Nat.le_of_ble_eq_true rfl⟩) hm hA hC 1000 rfl ((congrFun hG 1000).trans gM_o) rfl rfl rfl hl.1 rfl (Nat.le_of_ble_eq_true rfl) d_M_fired_177 ⟨Nat.le_of_ble_eq_true rfl, Nat.le_of_ble_eq_true rfl⟩) hm hA (fun r_43 H locs w_44 hm => ?_)
              refine lv_aload_n hx hb d_M_fired_180 rfl (lv_at hl 0 rfl) ?_
              refine lv_iload_n hx hb d_M_fired_181 rfl (lv_at hl 1 rfl) ?_
              refine lv_iconst (v := 1) hx hb d_M_fired_182 (by decide) ?_
              refine m_roi (m_runV (As := [.int p0, .int 1]) (rest := [.int r_43]) ⟨hx, hb, hml, hown, hts⟩ (c_M_reading l D dA ad G H.size A B S sd G0 hG p0 1 t 1 (by omega) ep rfl) (cwV 2 hts (gV k_793 k_790 k_792 ks_14 k_4) rfl rfl rfl (by decide +kernel) ⟨Nat.le_of_ble_eq_true rfl, Nat.le_of_ble_eq_true rfl⟩) hm hA hC 1000 rfl ((congrFun hG 1000).trans gM_o) rfl rfl rfl hl.1 rfl (Nat.le_of_ble_eq_true rfl) d_M_fired_183 ⟨Nat.le_of_ble_eq_true rfl, Nat.le_of_ble_eq_true rfl⟩) hm hA (fun r_45 H locs w_46 hm => ?_)
              refine m_roi (m_runS (As := [.int r_43, .int r_45]) (rest := []) ⟨hx, hb, hml, hown, hts⟩ (c_M_apart l D dA ad G H.size r_43 r_45) (va_cwS 2 hts (gS k_796 k_794 k_795 k_4) rfl rfl rfl (by decide +kernel) ⟨Nat.le_of_ble_eq_true rfl, Nat.le_of_ble_eq_true rfl⟩) hm hA hC rfl hl.1 rfl (Nat.le_of_ble_eq_true rfl) d_M_fired_186 ⟨Nat.le_of_ble_eq_true rfl, Nat.le_of_ble_eq_true rfl⟩) hm hA (fun r_47 H locs w_48 hm => ?_)
              refine lv_aload_n hx hb d_M_fired_189 rfl (lv_at hl 0 rfl) ?_
              refine lv_iload_n hx hb d_M_fired_190 rfl (lv_at hl 1 rfl) ?_
              refine lv_iconst (v := 1) hx hb d_M_fired_191 (by decide) ?_
              refine m_roi (m_runV (As := [.int p0, .int 1]) (rest := [.int r_47]) ⟨hx, hb, hml, hown, hts⟩ (c_M_reading l D dA ad G H.size A B S sd G0 hG p0 1 t 1 (by omega) ep rfl) (cwV 2 hts (gV k_793 k_790 k_792 ks_14 k_4) rfl rfl rfl (by decide +kernel) ⟨Nat.le_of_ble_eq_true rfl, Nat.le_of_ble_eq_true rfl⟩) hm hA hC 1000 rfl ((congrFun hG 1000).trans gM_o) rfl rfl rfl hl.1 rfl (Nat.le_of_ble_eq_true rfl) d_M_fired_192 ⟨Nat.le_of_ble_eq_true rfl, Nat.le_of_ble_eq_true rfl⟩) hm hA (fun r_49 H locs w_50 hm => ?_)
              refine lv_aload_n hx hb d_M_fired_195 rfl (lv_at hl 0 rfl) ?_
              refine lv_iload_n hx hb d_M_fired_196 rfl (lv_at hl 1 rfl) ?_
              refine lv_iconst (v := 2) hx hb d_M_fired_197 (by decide) ?_
              refine m_roi (m_runV (As := [.int p0, .int 2]) (rest := [.int r_49, .int r_47]) ⟨hx, hb, hml, hown, hts⟩ (c_M_reading l D dA ad G H.size A B S sd G0 hG p0 2 t 2 (by omega) ep rfl) (cwV 2 hts (gV k_793 k_790 k_792 ks_14 k_4) rfl rfl rfl (by decide +kernel) ⟨Nat.le_of_ble_eq_true rfl, Nat.le_of_ble_eq_true rfl⟩) hm hA hC 1000 rfl ((congrFun hG 1000).trans gM_o) rfl rfl rfl hl.1 rfl (Nat.le_of_ble_eq_true rfl) d_M_fired_198 ⟨Nat.le_of_ble_eq_true rfl, Nat.le_of_ble_eq_true rfl⟩) hm hA (fun r_51 H locs w_52 hm => ?_)
              refine m_roi (m_runS (As := [.int r_49, .int r_51]) (rest := [.int r_47]) ⟨hx, hb, hml, hown, hts⟩ (c_M_apart l D dA ad G H.size r_49 r_51) (va_cwS 2 hts (gS k_796 k_794 k_795 k_4) rfl rfl rfl (by decide +kernel) ⟨Nat.le_of_ble_eq_true rfl, Nat.le_of_ble_eq_true rfl⟩) hm hA hC rfl hl.1 rfl (Nat.le_of_ble_eq_true rfl) d_M_fired_201 ⟨Nat.le_of_ble_eq_true rfl, Nat.le_of_ble_eq_true rfl⟩) hm hA (fun r_53 H locs w_54 hm => ?_)
              refine lv_iadd hx hb d_M_fired_204 ?_
              refine lv_topi (fun x_55 ex_55 => ?_)
              have hap : x_55 = (if 0 ≤ A 21 (24 * t + 0) - A 21 (24 * t + 1) then A 21 (24 * t + 0) - A 21 (24 * t + 1) else 0 - (A 21 (24 * t + 0) - A 21 (24 * t + 1))) + (if 0 ≤ A 21 (24 * t + 1) - A 21 (24 * t + 2) then A 21 (24 * t + 1) - A 21 (24 * t + 2) else 0 - (A 21 (24 * t + 1) - A 21 (24 * t + 2))) := by
                rw [ex_55, w_48, w_54, w_44, w_46, w_50, w_52, apAbs hv0 hv1 ev0 ev1, apAbs hv1 hv2 ev1 ev2]
              refine lv_aload_n hx hb d_M_fired_205 rfl (lv_at hl 0 rfl) ?_
              refine m_get (v := .int (S 20)) (C := R_M) (T := T_M) (N := 28) hx hb hT in_M hown hC.1 hm 1000 rfl ((congrFun hG 1000).trans gM_o) rfl 20 (by decide) (hT _ k_610) (fun _ h9 => h9) rfl d_M_fired_206 ?_
              refine lv_icmp_le (tgt := 216) hx hb d_M_fired_209 (by decide) (fun c_209 => ?_) (fun c_209 => ?_)
              · refine lv_iconst (v := 0) hx hb d_M_fired_216 (by decide) ?_
                refine lv_istore (lv' := [(4, .int 0), (0, .ref (ad 1000)), (1, .int p0), (2, .int g), (3, .int a)]) hx hb d_M_fired_217 hl (by decide) rfl (fun ls hl => ?_)
                refine lv_iload hx hb d_M_fired_219 (lv_at hl 0 rfl) ?_
                refine lv_if_eq (tgt := 228) hx hb d_M_fired_221 (by decide) (fun _ => ?_) (fun c9 => absurd (by decide) c9)
                refine lv_iconst (v := (-1)) hx hb d_M_fired_228 (by decide) ?_
                exact m_iret (v := (-1)) hx hb hr hm (⟨Or.inr (Or.inr (Or.inr (Or.inr ⟨rfl, (fun h => Int32.not_lt.mpr (by have h9 := c_10; rw [w_2] at h9; exact h9) h), bv_eq hg c_147, bv_eq ha c_151, fun h => Int32.not_lt.mpr (by have h9 := c_209; rw [hap] at h9; exact h9) h.2⟩))), rfl⟩) d_M_fired_229 hlocks
              · refine lv_iconst (v := 1) hx hb d_M_fired_212 (by decide) ?_
                refine lv_goto (tgt := 217) hx hb d_M_fired_213 (by decide) ?_
                refine lv_istore (lv' := [(4, .int 1), (0, .ref (ad 1000)), (1, .int p0), (2, .int g), (3, .int a)]) hx hb d_M_fired_217 hl (by decide) rfl (fun ls hl => ?_)
                refine lv_iload hx hb d_M_fired_219 (lv_at hl 0 rfl) ?_
                refine lv_if_eq (tgt := 228) hx hb d_M_fired_221 (by decide) (fun c9 => absurd c9 (by decide)) (fun _ => ?_)
                refine lv_iconst (v := 3) hx hb d_M_fired_224 (by decide) ?_
                refine lv_goto (tgt := 229) hx hb d_M_fired_225 (by decide) ?_
                exact m_iret (v := 3) hx hb hr hm (⟨Or.inr (Or.inr (Or.inr (Or.inl ⟨rfl, (fun h => Int32.not_lt.mpr (by have h9 := c_10; rw [w_2] at h9; exact h9) h), bv_eq hg c_147, bv_eq ha c_151, not2.mp (by have h9 := c_171; rw [ec9] at h9; exact h9), by have h9 := Int32.not_le.mp c_209; rw [hap] at h9; exact h9⟩))), rfl⟩) d_M_fired_229 hlocks
          · refine lv_iload_n hx hb d_M_fired_154 rfl (lv_at hl 2 rfl) ?_
            refine lv_if_eq (tgt := 162) hx hb d_M_fired_155 (by decide) (fun c_155 => ?_) (fun c_155 => ?_)
            · refine lv_iconst (v := 2) hx hb d_M_fired_162 (by decide) ?_
              exact m_iret (v := 2) hx hb hr hm (⟨Or.inr (Or.inr (Or.inl ⟨rfl, (fun h => Int32.not_lt.mpr (by have h9 := c_10; rw [w_2] at h9; exact h9) h), bv_eq hg c_155, bv_ne ha c_151⟩)), rfl⟩) d_M_fired_163 hlocks
            · refine lv_iconst (v := 1) hx hb d_M_fired_158 (by decide) ?_
              refine lv_goto (tgt := 163) hx hb d_M_fired_159 (by decide) ?_
              exact m_iret (v := 1) hx hb hr hm (⟨Or.inr (Or.inl ⟨rfl, (fun h => Int32.not_lt.mpr (by have h9 := c_10; rw [w_2] at h9; exact h9) h), bv_ne hg c_155⟩), rfl⟩) d_M_fired_163 hlocks
      · refine lv_iload hx hb d_M_fired_65 (lv_at hl 4 rfl) ?_
        refine lv_aload_n hx hb d_M_fired_67 rfl (lv_at hl 0 rfl) ?_
        refine m_get (v := .ref (ad 1022)) (C := R_M) (T := T_M) (N := 28) hx hb hT in_M hown hC.1 hm 1000 rfl ((congrFun hG 1000).trans gM_o) rfl 22 (by decide) (hT _ k_612) (fun _ h9 => h9) rfl d_M_fired_68 ?_
        refine lv_iload_n hx hb d_M_fired_71 rfl (lv_at hl 1 rfl) ?_
        refine m_iald (v := A 22 t) hx hb hC.1 hm 1022 rfl 0 ((congrFun hG 1022).trans gM_22) rfl (by rw [ep]; exact vp_in_nI (by omega) (by decide)) (by rw [ep, nI_clamp (by omega)]) d_M_fired_72 ?_
        refine lv_icmp_ge (tgt := 146) hx hb d_M_fired_73 (by decide) (fun c_73 => ?_) (fun c_73 => ?_)
        · have hend : R + 1 ≤ k ∨ c9 ≤ k := Or.inr (by
            have h9 := c_73
            rw [ec9] at h9
            exact (nI_leI (by omega) (by omega)).mp h9)
          have hg : bv g (nI (R + 1) ≤ nI c9 ∧ ∀ i, i + 1 < R + 1 → A 21 (24 * t + (i + 1)) < A 21 (24 * t + i)) := bv_iff hI1 (fireQ1 (f := fun q => A 21 (24 * t + q)) hR2 hc9 hI.2.2.2.2 hend)
          have ha : bv a (nI (R + 1) ≤ nI c9 ∧ ∀ i, i < R + 1 → S 19 < A 21 (24 * t + i)) := bv_iff hI2 (fireQ2 (f := fun q => A 21 (24 * t + q)) hR2 hc9 hI.2.2.2.2 hend)
          refine lv_iload_n hx hb d_M_fired_146 rfl (lv_at hl 2 rfl) ?_
          refine lv_if_ne (tgt := 154) hx hb d_M_fired_147 (by decide) (fun c_147 => ?_) (fun c_147 => ?_)
          · refine lv_iload_n hx hb d_M_fired_154 rfl (lv_at hl 2 rfl) ?_
            refine lv_if_eq (tgt := 162) hx hb d_M_fired_155 (by decide) (fun c_155 => ?_) (fun c_155 => ?_)
            · refine lv_iconst (v := 2) hx hb d_M_fired_162 (by decide) ?_
              exact m_iret (v := 2) hx hb hr hm (⟨Or.inr (Or.inr (Or.inl ⟨rfl, (fun h => Int32.not_lt.mpr (by have h9 := c_10; rw [w_2] at h9; exact h9) h), bv_eq hg c_155, absurd c_155 c_147⟩)), rfl⟩) d_M_fired_163 hlocks
            · refine lv_iconst (v := 1) hx hb d_M_fired_158 (by decide) ?_
              refine lv_goto (tgt := 163) hx hb d_M_fired_159 (by decide) ?_
              exact m_iret (v := 1) hx hb hr hm (⟨Or.inr (Or.inl ⟨rfl, (fun h => Int32.not_lt.mpr (by have h9 := c_10; rw [w_2] at h9; exact h9) h), bv_ne hg c_155⟩), rfl⟩) d_M_fired_163 hlocks
          · refine lv_iload_n hx hb d_M_fired_150 rfl (lv_at hl 3 rfl) ?_
            refine lv_if_eq (tgt := 164) hx hb d_M_fired_151 (by decide) (fun c_151 => ?_) (fun c_151 => ?_)
            · refine lv_aload_n hx hb d_M_fired_164 rfl (lv_at hl 0 rfl) ?_
              refine m_get (v := .ref (ad 1022)) (C := R_M) (T := T_M) (N := 28) hx hb hT in_M hown hC.1 hm 1000 rfl ((congrFun hG 1000).trans gM_o) rfl 22 (by decide) (hT _ k_612) (fun _ h9 => h9) rfl d_M_fired_165 ?_
              refine lv_iload_n hx hb d_M_fired_168 rfl (lv_at hl 1 rfl) ?_
              refine m_iald (v := A 22 t) hx hb hC.1 hm 1022 rfl 0 ((congrFun hG 1022).trans gM_22) rfl (by rw [ep]; exact vp_in_nI (by omega) (by decide)) (by rw [ep, nI_clamp (by omega)]) d_M_fired_169 ?_
              refine lv_iconst (v := 2) hx hb d_M_fired_170 (by decide) ?_
              refine lv_icmp_le (tgt := 216) hx hb d_M_fired_171 (by decide) (fun c_171 => ?_) (fun c_171 => ?_)
              · refine lv_iconst (v := 0) hx hb d_M_fired_216 (by decide) ?_
                refine lv_istore (lv' := [(4, .int 0), (0, .ref (ad 1000)), (1, .int p0), (2, .int g), (3, .int a)]) hx hb d_M_fired_217 hl (by decide) rfl (fun ls hl => ?_)
                refine lv_iload hx hb d_M_fired_219 (lv_at hl 0 rfl) ?_
                refine lv_if_eq (tgt := 228) hx hb d_M_fired_221 (by decide) (fun _ => ?_) (fun c9 => absurd (by decide) c9)
                refine lv_iconst (v := (-1)) hx hb d_M_fired_228 (by decide) ?_
                exact m_iret (v := (-1)) hx hb hr hm (⟨Or.inr (Or.inr (Or.inr (Or.inr ⟨rfl, (fun h => Int32.not_lt.mpr (by have h9 := c_10; rw [w_2] at h9; exact h9) h), bv_eq hg c_147, bv_eq ha c_151, fun h => not2.mpr h.1 (by have h9 := c_171; rw [ec9] at h9; exact h9)⟩))), rfl⟩) d_M_fired_229 hlocks
              · obtain ⟨v0, hv0, ev0⟩ := hrd 0 (by decide)
                obtain ⟨v1, hv1, ev1⟩ := hrd 1 (by decide)
                obtain ⟨v2, hv2, ev2⟩ := hrd 2 (by decide)
                refine lv_aload_n hx hb d_M_fired_174 rfl (lv_at hl 0 rfl) ?_
                refine lv_iload_n hx hb d_M_fired_175 rfl (lv_at hl 1 rfl) ?_
                refine lv_iconst (v := 0) hx hb d_M_fired_176 (by decide) ?_
                refine m_roi (m_runV (As := [.int p0, .int 0]) (rest := []) ⟨hx, hb, hml, hown, hts⟩ (c_M_reading l D dA ad G H.size A B S sd G0 hG p0 0 t 0 (by omega) ep rfl) (cwV 2 hts (gV k_793 k_790 k_792 ks_14 k_4) rfl rfl rfl (by decide +kernel) ⟨Nat.le_of_ble_eq_true rfl, Nat.le_of_ble_eq_true rfl⟩) hm hA hC 1000 rfl ((congrFun hG 1000).trans gM_o) rfl rfl rfl hl.1 rfl (Nat.le_of_ble_eq_true rfl) d_M_fired_177 ⟨Nat.le_of_ble_eq_true rfl, Nat.le_of_ble_eq_true rfl⟩) hm hA (fun r_56 H locs w_57 hm => ?_)
                refine lv_aload_n hx hb d_M_fired_180 rfl (lv_at hl 0 rfl) ?_
                refine lv_iload_n hx hb d_M_fired_181 rfl (lv_at hl 1 rfl) ?_
                refine lv_iconst (v := 1) hx hb d_M_fired_182 (by decide) ?_
                refine m_roi (m_runV (As := [.int p0, .int 1]) (rest := [.int r_56]) ⟨hx, hb, hml, hown, hts⟩ (c_M_reading l D dA ad G H.size A B S sd G0 hG p0 1 t 1 (by omega) ep rfl) (cwV 2 hts (gV k_793 k_790 k_792 ks_14 k_4) rfl rfl rfl (by decide +kernel) ⟨Nat.le_of_ble_eq_true rfl, Nat.le_of_ble_eq_true rfl⟩) hm hA hC 1000 rfl ((congrFun hG 1000).trans gM_o) rfl rfl rfl hl.1 rfl (Nat.le_of_ble_eq_true rfl) d_M_fired_183 ⟨Nat.le_of_ble_eq_true rfl, Nat.le_of_ble_eq_true rfl⟩) hm hA (fun r_58 H locs w_59 hm => ?_)
                refine m_roi (m_runS (As := [.int r_56, .int r_58]) (rest := []) ⟨hx, hb, hml, hown, hts⟩ (c_M_apart l D dA ad G H.size r_56 r_58) (va_cwS 2 hts (gS k_796 k_794 k_795 k_4) rfl rfl rfl (by decide +kernel) ⟨Nat.le_of_ble_eq_true rfl, Nat.le_of_ble_eq_true rfl⟩) hm hA hC rfl hl.1 rfl (Nat.le_of_ble_eq_true rfl) d_M_fired_186 ⟨Nat.le_of_ble_eq_true rfl, Nat.le_of_ble_eq_true rfl⟩) hm hA (fun r_60 H locs w_61 hm => ?_)
                refine lv_aload_n hx hb d_M_fired_189 rfl (lv_at hl 0 rfl) ?_
                refine lv_iload_n hx hb d_M_fired_190 rfl (lv_at hl 1 rfl) ?_
                refine lv_iconst (v := 1) hx hb d_M_fired_191 (by decide) ?_
                refine m_roi (m_runV (As := [.int p0, .int 1]) (rest := [.int r_60]) ⟨hx, hb, hml, hown, hts⟩ (c_M_reading l D dA ad G H.size A B S sd G0 hG p0 1 t 1 (by omega) ep rfl) (cwV 2 hts (gV k_793 k_790 k_792 ks_14 k_4) rfl rfl rfl (by decide +kernel) ⟨Nat.le_of_ble_eq_true rfl, Nat.le_of_ble_eq_true rfl⟩) hm hA hC 1000 rfl ((congrFun hG 1000).trans gM_o) rfl rfl rfl hl.1 rfl (Nat.le_of_ble_eq_true rfl) d_M_fired_192 ⟨Nat.le_of_ble_eq_true rfl, Nat.le_of_ble_eq_true rfl⟩) hm hA (fun r_62 H locs w_63 hm => ?_)
                refine lv_aload_n hx hb d_M_fired_195 rfl (lv_at hl 0 rfl) ?_
                refine lv_iload_n hx hb d_M_fired_196 rfl (lv_at hl 1 rfl) ?_
                refine lv_iconst (v := 2) hx hb d_M_fired_197 (by decide) ?_
                refine m_roi (m_runV (As := [.int p0, .int 2]) (rest := [.int r_62, .int r_60]) ⟨hx, hb, hml, hown, hts⟩ (c_M_reading l D dA ad G H.size A B S sd G0 hG p0 2 t 2 (by omega) ep rfl) (cwV 2 hts (gV k_793 k_790 k_792 ks_14 k_4) rfl rfl rfl (by decide +kernel) ⟨Nat.le_of_ble_eq_true rfl, Nat.le_of_ble_eq_true rfl⟩) hm hA hC 1000 rfl ((congrFun hG 1000).trans gM_o) rfl rfl rfl hl.1 rfl (Nat.le_of_ble_eq_true rfl) d_M_fired_198 ⟨Nat.le_of_ble_eq_true rfl, Nat.le_of_ble_eq_true rfl⟩) hm hA (fun r_64 H locs w_65 hm => ?_)
                refine m_roi (m_runS (As := [.int r_62, .int r_64]) (rest := [.int r_60]) ⟨hx, hb, hml, hown, hts⟩ (c_M_apart l D dA ad G H.size r_62 r_64) (va_cwS 2 hts (gS k_796 k_794 k_795 k_4) rfl rfl rfl (by decide +kernel) ⟨Nat.le_of_ble_eq_true rfl, Nat.le_of_ble_eq_true rfl⟩) hm hA hC rfl hl.1 rfl (Nat.le_of_ble_eq_true rfl) d_M_fired_201 ⟨Nat.le_of_ble_eq_true rfl, Nat.le_of_ble_eq_true rfl⟩) hm hA (fun r_66 H locs w_67 hm => ?_)
                refine lv_iadd hx hb d_M_fired_204 ?_
                refine lv_topi (fun x_68 ex_68 => ?_)
                have hap : x_68 = (if 0 ≤ A 21 (24 * t + 0) - A 21 (24 * t + 1) then A 21 (24 * t + 0) - A 21 (24 * t + 1) else 0 - (A 21 (24 * t + 0) - A 21 (24 * t + 1))) + (if 0 ≤ A 21 (24 * t + 1) - A 21 (24 * t + 2) then A 21 (24 * t + 1) - A 21 (24 * t + 2) else 0 - (A 21 (24 * t + 1) - A 21 (24 * t + 2))) := by
                  rw [ex_68, w_61, w_67, w_57, w_59, w_63, w_65, apAbs hv0 hv1 ev0 ev1, apAbs hv1 hv2 ev1 ev2]
                refine lv_aload_n hx hb d_M_fired_205 rfl (lv_at hl 0 rfl) ?_
                refine m_get (v := .int (S 20)) (C := R_M) (T := T_M) (N := 28) hx hb hT in_M hown hC.1 hm 1000 rfl ((congrFun hG 1000).trans gM_o) rfl 20 (by decide) (hT _ k_610) (fun _ h9 => h9) rfl d_M_fired_206 ?_
                refine lv_icmp_le (tgt := 216) hx hb d_M_fired_209 (by decide) (fun c_209 => ?_) (fun c_209 => ?_)
                · refine lv_iconst (v := 0) hx hb d_M_fired_216 (by decide) ?_
                  refine lv_istore (lv' := [(4, .int 0), (0, .ref (ad 1000)), (1, .int p0), (2, .int g), (3, .int a)]) hx hb d_M_fired_217 hl (by decide) rfl (fun ls hl => ?_)
                  refine lv_iload hx hb d_M_fired_219 (lv_at hl 0 rfl) ?_
                  refine lv_if_eq (tgt := 228) hx hb d_M_fired_221 (by decide) (fun _ => ?_) (fun c9 => absurd (by decide) c9)
                  refine lv_iconst (v := (-1)) hx hb d_M_fired_228 (by decide) ?_
                  exact m_iret (v := (-1)) hx hb hr hm (⟨Or.inr (Or.inr (Or.inr (Or.inr ⟨rfl, (fun h => Int32.not_lt.mpr (by have h9 := c_10; rw [w_2] at h9; exact h9) h), bv_eq hg c_147, bv_eq ha c_151, fun h => Int32.not_lt.mpr (by have h9 := c_209; rw [hap] at h9; exact h9) h.2⟩))), rfl⟩) d_M_fired_229 hlocks
                · refine lv_iconst (v := 1) hx hb d_M_fired_212 (by decide) ?_
                  refine lv_goto (tgt := 217) hx hb d_M_fired_213 (by decide) ?_
                  refine lv_istore (lv' := [(4, .int 1), (0, .ref (ad 1000)), (1, .int p0), (2, .int g), (3, .int a)]) hx hb d_M_fired_217 hl (by decide) rfl (fun ls hl => ?_)
                  refine lv_iload hx hb d_M_fired_219 (lv_at hl 0 rfl) ?_
                  refine lv_if_eq (tgt := 228) hx hb d_M_fired_221 (by decide) (fun c9 => absurd c9 (by decide)) (fun _ => ?_)
                  refine lv_iconst (v := 3) hx hb d_M_fired_224 (by decide) ?_
                  refine lv_goto (tgt := 229) hx hb d_M_fired_225 (by decide) ?_
                  exact m_iret (v := 3) hx hb hr hm (⟨Or.inr (Or.inr (Or.inr (Or.inl ⟨rfl, (fun h => Int32.not_lt.mpr (by have h9 := c_10; rw [w_2] at h9; exact h9) h), bv_eq hg c_147, bv_eq ha c_151, not2.mp (by have h9 := c_171; rw [ec9] at h9; exact h9), by have h9 := Int32.not_le.mp c_209; rw [hap] at h9; exact h9⟩))), rfl⟩) d_M_fired_229 hlocks
            · refine lv_iload_n hx hb d_M_fired_154 rfl (lv_at hl 2 rfl) ?_
              refine lv_if_eq (tgt := 162) hx hb d_M_fired_155 (by decide) (fun c_155 => ?_) (fun c_155 => ?_)
              · refine lv_iconst (v := 2) hx hb d_M_fired_162 (by decide) ?_
                exact m_iret (v := 2) hx hb hr hm (⟨Or.inr (Or.inr (Or.inl ⟨rfl, (fun h => Int32.not_lt.mpr (by have h9 := c_10; rw [w_2] at h9; exact h9) h), bv_eq hg c_155, bv_ne ha c_151⟩)), rfl⟩) d_M_fired_163 hlocks
              · refine lv_iconst (v := 1) hx hb d_M_fired_158 (by decide) ?_
                refine lv_goto (tgt := 163) hx hb d_M_fired_159 (by decide) ?_
                exact m_iret (v := 1) hx hb hr hm (⟨Or.inr (Or.inl ⟨rfl, (fun h => Int32.not_lt.mpr (by have h9 := c_10; rw [w_2] at h9; exact h9) h), bv_ne hg c_155⟩), rfl⟩) d_M_fired_163 hlocks
        · have hkR : k < R + 1 := by
            have h9 := Int32.not_le.mp c_62
            rw [hR] at h9
            exact (nI_ltI (by omega) (by omega)).mp h9
          have hkc : k < c9 := by
            have h9 := Int32.not_le.mp c_73
            rw [ec9] at h9
            exact (nI_ltI (by omega) (by omega)).mp h9
          refine lv_iload_n hx hb d_M_fired_76 rfl (lv_at hl 2 rfl) ?_
          refine lv_if_eq (tgt := 114) hx hb d_M_fired_77 (by decide) (fun c_77 => ?_) (fun c_77 => ?_)
          · refine lv_iconst (v := 0) hx hb d_M_fired_114 (by decide) ?_
            have hg9 : bv 0 (R + 1 ≤ c9 ∧ ∀ i, i < (k + 1) → (i = R ∨ A 21 (24 * t + (i + 1)) < A 21 (24 * t + i))) := bv0 (fun h => bv_eq hI1 c_77 ⟨h.1, fun i hi => h.2 i (by omega)⟩)
            refine lv_istore_n (lv' := [(2, .int 0), (0, .ref (ad 1000)), (1, .int p0), (3, .int a), (4, .int (nI k))]) hx hb d_M_fired_115 rfl hl (by decide) rfl (fun ls hl => ?_)
            refine lv_iload_n hx hb d_M_fired_116 rfl (lv_at hl 3 rfl) ?_
            refine lv_if_eq (tgt := 138) hx hb d_M_fired_117 (by decide) (fun c_117 => ?_) (fun c_117 => ?_)
            · refine lv_iconst (v := 0) hx hb d_M_fired_138 (by decide) ?_
              have ha9 : bv 0 (R + 1 ≤ c9 ∧ ∀ i, i < (k + 1) → S 19 < A 21 (24 * t + i)) := bv0 (fun h => bv_eq hI2 c_117 ⟨h.1, fun i hi => h.2 i (by omega)⟩)
              refine lv_istore_n (lv' := [(3, .int 0), (2, .int 0), (0, .ref (ad 1000)), (1, .int p0), (4, .int (nI k))]) hx hb d_M_fired_139 rfl hl (by decide) rfl (fun ls hl => ?_)
              refine lv_iinc (v := nI (k + 1)) (lv' := [(4, .int (nI (k + 1))), (3, .int 0), (2, .int 0), (0, .ref (ad 1000)), (1, .int p0)]) hx hb d_M_fired_140 hl (k := 4) rfl (nI_1 _) (by decide) rfl (fun ls hl => ?_)
              refine lv_goto (tgt := 56) hx hb d_M_fired_143 (by decide) ?_
              exact ih56 (k + 1, 0, 0) ls H locs (⟨by omega, by omega, hg9, ha9, by omega⟩) (lv_sub hl [3, 4, 2, 1, 0] rfl) hm
            · refine lv_aload_n hx hb d_M_fired_120 rfl (lv_at hl 1 rfl) ?_
              refine lv_iload_n hx hb d_M_fired_121 rfl (lv_at hl 2 rfl) ?_
              refine lv_iload hx hb d_M_fired_122 (lv_at hl 4 rfl) ?_
              refine m_roi (m_runV (As := [.int p0, .int (nI k)]) (rest := []) ⟨hx, hb, hml, hown, hts⟩ (c_M_reading l D dA ad G H.size A B S sd G0 hG p0 (nI k) t k (by omega) ep rfl) (cwV 2 hts (gV k_793 k_790 k_792 ks_14 k_4) rfl rfl rfl (by decide +kernel) ⟨Nat.le_of_ble_eq_true rfl, Nat.le_of_ble_eq_true rfl⟩) hm hA hC 1000 rfl ((congrFun hG 1000).trans gM_o) rfl rfl rfl hl.1 rfl (Nat.le_of_ble_eq_true rfl) d_M_fired_124 ⟨Nat.le_of_ble_eq_true rfl, Nat.le_of_ble_eq_true rfl⟩) hm hA (fun r_69 H locs w_70 hm => ?_)
              refine lv_aload_n hx hb d_M_fired_127 rfl (lv_at hl 1 rfl) ?_
              refine m_get (v := .int (S 19)) (C := R_M) (T := T_M) (N := 28) hx hb hT in_M hown hC.1 hm 1000 rfl ((congrFun hG 1000).trans gM_o) rfl 19 (by decide) (hT _ k_609) (fun _ h9 => h9) rfl d_M_fired_128 ?_
              refine lv_icmp_le (tgt := 138) hx hb d_M_fired_131 (by decide) (fun c_131 => ?_) (fun c_131 => ?_)
              · refine lv_iconst (v := 0) hx hb d_M_fired_138 (by decide) ?_
                have ha9 : bv 0 (R + 1 ≤ c9 ∧ ∀ i, i < (k + 1) → S 19 < A 21 (24 * t + i)) := bv0 (fun h => by
                  have h9 := c_131
                  rw [w_70] at h9
                  exact Int32.not_lt.mpr h9 (h.2 k (by omega)))
                refine lv_istore_n (lv' := [(3, .int 0), (2, .int 0), (0, .ref (ad 1000)), (1, .int p0), (4, .int (nI k))]) hx hb d_M_fired_139 rfl hl (by decide) rfl (fun ls hl => ?_)
                refine lv_iinc (v := nI (k + 1)) (lv' := [(4, .int (nI (k + 1))), (3, .int 0), (2, .int 0), (0, .ref (ad 1000)), (1, .int p0)]) hx hb d_M_fired_140 hl (k := 4) rfl (nI_1 _) (by decide) rfl (fun ls hl => ?_)
                refine lv_goto (tgt := 56) hx hb d_M_fired_143 (by decide) ?_
                exact ih56 (k + 1, 0, 0) ls H locs (⟨by omega, by omega, hg9, ha9, by omega⟩) (lv_sub hl [3, 4, 2, 1, 0] rfl) hm
              · refine lv_iconst (v := 1) hx hb d_M_fired_134 (by decide) ?_
                refine lv_goto (tgt := 139) hx hb d_M_fired_135 (by decide) ?_
                have ha9 : bv 1 (R + 1 ≤ c9 ∧ ∀ i, i < (k + 1) → S 19 < A 21 (24 * t + i)) := bv1 ⟨(bv_ne hI2 c_117).1, fun i hi => by
                  by_cases q : i = k
                  · have h9 := Int32.not_le.mp c_131
                    rw [w_70] at h9
                    rw [q]
                    exact h9
                  · exact (bv_ne hI2 c_117).2 i (by omega)⟩
                refine lv_istore_n (lv' := [(3, .int 1), (2, .int 0), (0, .ref (ad 1000)), (1, .int p0), (4, .int (nI k))]) hx hb d_M_fired_139 rfl hl (by decide) rfl (fun ls hl => ?_)
                refine lv_iinc (v := nI (k + 1)) (lv' := [(4, .int (nI (k + 1))), (3, .int 1), (2, .int 0), (0, .ref (ad 1000)), (1, .int p0)]) hx hb d_M_fired_140 hl (k := 4) rfl (nI_1 _) (by decide) rfl (fun ls hl => ?_)
                refine lv_goto (tgt := 56) hx hb d_M_fired_143 (by decide) ?_
                exact ih56 (k + 1, 0, 1) ls H locs (⟨by omega, by omega, hg9, ha9, by omega⟩) (lv_sub hl [3, 4, 2, 1, 0] rfl) hm
          · refine lv_iload hx hb d_M_fired_80 (lv_at hl 4 rfl) ?_
            refine lv_aload_n hx hb d_M_fired_82 rfl (lv_at hl 0 rfl) ?_
            refine m_get (v := .int (S 18)) (C := R_M) (T := T_M) (N := 28) hx hb hT in_M hown hC.1 hm 1000 rfl ((congrFun hG 1000).trans gM_o) rfl 18 (by decide) (hT _ k_608) (fun _ h9 => h9) rfl d_M_fired_83 ?_
            refine lv_iconst (v := 1) hx hb d_M_fired_86 (by decide) ?_
            refine lv_isub hx hb d_M_fired_87 ?_
            refine lv_topi (fun x_71 ex_71 => ?_)
            refine lv_icmp_eq (tgt := 110) hx hb d_M_fired_88 (by decide) (fun c_88 => ?_) (fun c_88 => ?_)
            · refine lv_iconst (v := 1) hx hb d_M_fired_110 (by decide) ?_
              refine lv_goto (tgt := 115) hx hb d_M_fired_111 (by decide) ?_
              have hkr : k = R := by
                have h9 := c_88
                rw [ex_71, hR, nI_pred] at h9
                exact (nI_eq (by omega) (by omega)).mp h9
              have hg9 : bv 1 (R + 1 ≤ c9 ∧ ∀ i, i < (k + 1) → (i = R ∨ A 21 (24 * t + (i + 1)) < A 21 (24 * t + i))) := bv1 ⟨(bv_ne hI1 c_77).1, fun i hi => by
                by_cases q : i = k
                · exact Or.inl (q.trans hkr)
                · exact (bv_ne hI1 c_77).2 i (by omega)⟩
              refine lv_istore_n (lv' := [(2, .int 1), (0, .ref (ad 1000)), (1, .int p0), (3, .int a), (4, .int (nI k))]) hx hb d_M_fired_115 rfl hl (by decide) rfl (fun ls hl => ?_)
              refine lv_iload_n hx hb d_M_fired_116 rfl (lv_at hl 3 rfl) ?_
              refine lv_if_eq (tgt := 138) hx hb d_M_fired_117 (by decide) (fun c_117 => ?_) (fun c_117 => ?_)
              · refine lv_iconst (v := 0) hx hb d_M_fired_138 (by decide) ?_
                have ha9 : bv 0 (R + 1 ≤ c9 ∧ ∀ i, i < (k + 1) → S 19 < A 21 (24 * t + i)) := bv0 (fun h => bv_eq hI2 c_117 ⟨h.1, fun i hi => h.2 i (by omega)⟩)
                refine lv_istore_n (lv' := [(3, .int 0), (2, .int 1), (0, .ref (ad 1000)), (1, .int p0), (4, .int (nI k))]) hx hb d_M_fired_139 rfl hl (by decide) rfl (fun ls hl => ?_)
                refine lv_iinc (v := nI (k + 1)) (lv' := [(4, .int (nI (k + 1))), (3, .int 0), (2, .int 1), (0, .ref (ad 1000)), (1, .int p0)]) hx hb d_M_fired_140 hl (k := 4) rfl (nI_1 _) (by decide) rfl (fun ls hl => ?_)
                refine lv_goto (tgt := 56) hx hb d_M_fired_143 (by decide) ?_
                exact ih56 (k + 1, 1, 0) ls H locs (⟨by omega, by omega, hg9, ha9, by omega⟩) (lv_sub hl [3, 4, 2, 1, 0] rfl) hm
              · refine lv_aload_n hx hb d_M_fired_120 rfl (lv_at hl 1 rfl) ?_
                refine lv_iload_n hx hb d_M_fired_121 rfl (lv_at hl 2 rfl) ?_
                refine lv_iload hx hb d_M_fired_122 (lv_at hl 4 rfl) ?_
                refine m_roi (m_runV (As := [.int p0, .int (nI k)]) (rest := []) ⟨hx, hb, hml, hown, hts⟩ (c_M_reading l D dA ad G H.size A B S sd G0 hG p0 (nI k) t k (by omega) ep rfl) (cwV 2 hts (gV k_793 k_790 k_792 ks_14 k_4) rfl rfl rfl (by decide +kernel) ⟨Nat.le_of_ble_eq_true rfl, Nat.le_of_ble_eq_true rfl⟩) hm hA hC 1000 rfl ((congrFun hG 1000).trans gM_o) rfl rfl rfl hl.1 rfl (Nat.le_of_ble_eq_true rfl) d_M_fired_124 ⟨Nat.le_of_ble_eq_true rfl, Nat.le_of_ble_eq_true rfl⟩) hm hA (fun r_72 H locs w_73 hm => ?_)
                refine lv_aload_n hx hb d_M_fired_127 rfl (lv_at hl 1 rfl) ?_
                refine m_get (v := .int (S 19)) (C := R_M) (T := T_M) (N := 28) hx hb hT in_M hown hC.1 hm 1000 rfl ((congrFun hG 1000).trans gM_o) rfl 19 (by decide) (hT _ k_609) (fun _ h9 => h9) rfl d_M_fired_128 ?_
                refine lv_icmp_le (tgt := 138) hx hb d_M_fired_131 (by decide) (fun c_131 => ?_) (fun c_131 => ?_)
                · refine lv_iconst (v := 0) hx hb d_M_fired_138 (by decide) ?_
                  have ha9 : bv 0 (R + 1 ≤ c9 ∧ ∀ i, i < (k + 1) → S 19 < A 21 (24 * t + i)) := bv0 (fun h => by
                    have h9 := c_131
                    rw [w_73] at h9
                    exact Int32.not_lt.mpr h9 (h.2 k (by omega)))
                  refine lv_istore_n (lv' := [(3, .int 0), (2, .int 1), (0, .ref (ad 1000)), (1, .int p0), (4, .int (nI k))]) hx hb d_M_fired_139 rfl hl (by decide) rfl (fun ls hl => ?_)
                  refine lv_iinc (v := nI (k + 1)) (lv' := [(4, .int (nI (k + 1))), (3, .int 0), (2, .int 1), (0, .ref (ad 1000)), (1, .int p0)]) hx hb d_M_fired_140 hl (k := 4) rfl (nI_1 _) (by decide) rfl (fun ls hl => ?_)
                  refine lv_goto (tgt := 56) hx hb d_M_fired_143 (by decide) ?_
                  exact ih56 (k + 1, 1, 0) ls H locs (⟨by omega, by omega, hg9, ha9, by omega⟩) (lv_sub hl [3, 4, 2, 1, 0] rfl) hm
                · refine lv_iconst (v := 1) hx hb d_M_fired_134 (by decide) ?_
                  refine lv_goto (tgt := 139) hx hb d_M_fired_135 (by decide) ?_
                  have ha9 : bv 1 (R + 1 ≤ c9 ∧ ∀ i, i < (k + 1) → S 19 < A 21 (24 * t + i)) := bv1 ⟨(bv_ne hI2 c_117).1, fun i hi => by
                    by_cases q : i = k
                    · have h9 := Int32.not_le.mp c_131
                      rw [w_73] at h9
                      rw [q]
                      exact h9
                    · exact (bv_ne hI2 c_117).2 i (by omega)⟩
                  refine lv_istore_n (lv' := [(3, .int 1), (2, .int 1), (0, .ref (ad 1000)), (1, .int p0), (4, .int (nI k))]) hx hb d_M_fired_139 rfl hl (by decide) rfl (fun ls hl => ?_)
                  refine lv_iinc (v := nI (k + 1)) (lv' := [(4, .int (nI (k + 1))), (3, .int 1), (2, .int 1), (0, .ref (ad 1000)), (1, .int p0)]) hx hb d_M_fired_140 hl (k := 4) rfl (nI_1 _) (by decide) rfl (fun ls hl => ?_)
                  refine lv_goto (tgt := 56) hx hb d_M_fired_143 (by decide) ?_
                  exact ih56 (k + 1, 1, 1) ls H locs (⟨by omega, by omega, hg9, ha9, by omega⟩) (lv_sub hl [3, 4, 2, 1, 0] rfl) hm
            · refine lv_aload_n hx hb d_M_fired_91 rfl (lv_at hl 0 rfl) ?_
              refine lv_iload_n hx hb d_M_fired_92 rfl (lv_at hl 1 rfl) ?_
              refine lv_iload hx hb d_M_fired_93 (lv_at hl 4 rfl) ?_
              refine m_roi (m_runV (As := [.int p0, .int (nI k)]) (rest := []) ⟨hx, hb, hml, hown, hts⟩ (c_M_reading l D dA ad G H.size A B S sd G0 hG p0 (nI k) t k (by omega) ep rfl) (cwV 2 hts (gV k_793 k_790 k_792 ks_14 k_4) rfl rfl rfl (by decide +kernel) ⟨Nat.le_of_ble_eq_true rfl, Nat.le_of_ble_eq_true rfl⟩) hm hA hC 1000 rfl ((congrFun hG 1000).trans gM_o) rfl rfl rfl hl.1 rfl (Nat.le_of_ble_eq_true rfl) d_M_fired_95 ⟨Nat.le_of_ble_eq_true rfl, Nat.le_of_ble_eq_true rfl⟩) hm hA (fun r_74 H locs w_75 hm => ?_)
              refine lv_aload_n hx hb d_M_fired_98 rfl (lv_at hl 0 rfl) ?_
              refine lv_iload_n hx hb d_M_fired_99 rfl (lv_at hl 1 rfl) ?_
              refine lv_iload hx hb d_M_fired_100 (lv_at hl 4 rfl) ?_
              refine lv_iconst (v := 1) hx hb d_M_fired_102 (by decide) ?_
              refine lv_iadd hx hb d_M_fired_103 ?_
              refine lv_topi (fun x_76 ex_76 => ?_)
              refine m_roi (m_runV (As := [.int p0, .int x_76]) (rest := [.int r_74]) ⟨hx, hb, hml, hown, hts⟩ (c_M_reading l D dA ad G H.size A B S sd G0 hG p0 x_76 t (k + 1) (by omega) ep (by rw [ex_76, nI_1])) (cwV 2 hts (gV k_793 k_790 k_792 ks_14 k_4) rfl rfl rfl (by decide +kernel) ⟨Nat.le_of_ble_eq_true rfl, Nat.le_of_ble_eq_true rfl⟩) hm hA hC 1000 rfl ((congrFun hG 1000).trans gM_o) rfl rfl rfl hl.1 rfl (Nat.le_of_ble_eq_true rfl) d_M_fired_104 ⟨Nat.le_of_ble_eq_true rfl, Nat.le_of_ble_eq_true rfl⟩) hm hA (fun r_77 H locs w_78 hm => ?_)
              refine lv_icmp_le (tgt := 114) hx hb d_M_fired_107 (by decide) (fun c_107 => ?_) (fun c_107 => ?_)
              · refine lv_iconst (v := 0) hx hb d_M_fired_114 (by decide) ?_
                have hkr : ¬ k = R := fun q => by
                  have h9 := c_88
                  rw [ex_71, hR, nI_pred, q] at h9
                  exact h9 rfl
                have hg9 : bv 0 (R + 1 ≤ c9 ∧ ∀ i, i < (k + 1) → (i = R ∨ A 21 (24 * t + (i + 1)) < A 21 (24 * t + i))) := bv0 (fun h => by
                  have h9 := c_107
                  rw [w_75, w_78] at h9
                  rcases h.2 k (by omega) with q | q
                  · exact hkr q
                  · exact Int32.not_lt.mpr h9 q)
                refine lv_istore_n (lv' := [(2, .int 0), (0, .ref (ad 1000)), (1, .int p0), (3, .int a), (4, .int (nI k))]) hx hb d_M_fired_115 rfl hl (by decide) rfl (fun ls hl => ?_)
                refine lv_iload_n hx hb d_M_fired_116 rfl (lv_at hl 3 rfl) ?_
                refine lv_if_eq (tgt := 138) hx hb d_M_fired_117 (by decide) (fun c_117 => ?_) (fun c_117 => ?_)
                · refine lv_iconst (v := 0) hx hb d_M_fired_138 (by decide) ?_
                  have ha9 : bv 0 (R + 1 ≤ c9 ∧ ∀ i, i < (k + 1) → S 19 < A 21 (24 * t + i)) := bv0 (fun h => bv_eq hI2 c_117 ⟨h.1, fun i hi => h.2 i (by omega)⟩)
                  refine lv_istore_n (lv' := [(3, .int 0), (2, .int 0), (0, .ref (ad 1000)), (1, .int p0), (4, .int (nI k))]) hx hb d_M_fired_139 rfl hl (by decide) rfl (fun ls hl => ?_)
                  refine lv_iinc (v := nI (k + 1)) (lv' := [(4, .int (nI (k + 1))), (3, .int 0), (2, .int 0), (0, .ref (ad 1000)), (1, .int p0)]) hx hb d_M_fired_140 hl (k := 4) rfl (nI_1 _) (by decide) rfl (fun ls hl => ?_)
                  refine lv_goto (tgt := 56) hx hb d_M_fired_143 (by decide) ?_
                  exact ih56 (k + 1, 0, 0) ls H locs (⟨by omega, by omega, hg9, ha9, by omega⟩) (lv_sub hl [3, 4, 2, 1, 0] rfl) hm
                · refine lv_aload_n hx hb d_M_fired_120 rfl (lv_at hl 1 rfl) ?_
                  refine lv_iload_n hx hb d_M_fired_121 rfl (lv_at hl 2 rfl) ?_
                  refine lv_iload hx hb d_M_fired_122 (lv_at hl 4 rfl) ?_
                  refine m_roi (m_runV (As := [.int p0, .int (nI k)]) (rest := []) ⟨hx, hb, hml, hown, hts⟩ (c_M_reading l D dA ad G H.size A B S sd G0 hG p0 (nI k) t k (by omega) ep rfl) (cwV 2 hts (gV k_793 k_790 k_792 ks_14 k_4) rfl rfl rfl (by decide +kernel) ⟨Nat.le_of_ble_eq_true rfl, Nat.le_of_ble_eq_true rfl⟩) hm hA hC 1000 rfl ((congrFun hG 1000).trans gM_o) rfl rfl rfl hl.1 rfl (Nat.le_of_ble_eq_true rfl) d_M_fired_124 ⟨Nat.le_of_ble_eq_true rfl, Nat.le_of_ble_eq_true rfl⟩) hm hA (fun r_79 H locs w_80 hm => ?_)
                  refine lv_aload_n hx hb d_M_fired_127 rfl (lv_at hl 1 rfl) ?_
                  refine m_get (v := .int (S 19)) (C := R_M) (T := T_M) (N := 28) hx hb hT in_M hown hC.1 hm 1000 rfl ((congrFun hG 1000).trans gM_o) rfl 19 (by decide) (hT _ k_609) (fun _ h9 => h9) rfl d_M_fired_128 ?_
                  refine lv_icmp_le (tgt := 138) hx hb d_M_fired_131 (by decide) (fun c_131 => ?_) (fun c_131 => ?_)
                  · refine lv_iconst (v := 0) hx hb d_M_fired_138 (by decide) ?_
                    have ha9 : bv 0 (R + 1 ≤ c9 ∧ ∀ i, i < (k + 1) → S 19 < A 21 (24 * t + i)) := bv0 (fun h => by
                      have h9 := c_131
                      rw [w_80] at h9
                      exact Int32.not_lt.mpr h9 (h.2 k (by omega)))
                    refine lv_istore_n (lv' := [(3, .int 0), (2, .int 0), (0, .ref (ad 1000)), (1, .int p0), (4, .int (nI k))]) hx hb d_M_fired_139 rfl hl (by decide) rfl (fun ls hl => ?_)
                    refine lv_iinc (v := nI (k + 1)) (lv' := [(4, .int (nI (k + 1))), (3, .int 0), (2, .int 0), (0, .ref (ad 1000)), (1, .int p0)]) hx hb d_M_fired_140 hl (k := 4) rfl (nI_1 _) (by decide) rfl (fun ls hl => ?_)
                    refine lv_goto (tgt := 56) hx hb d_M_fired_143 (by decide) ?_
                    exact ih56 (k + 1, 0, 0) ls H locs (⟨by omega, by omega, hg9, ha9, by omega⟩) (lv_sub hl [3, 4, 2, 1, 0] rfl) hm
                  · refine lv_iconst (v := 1) hx hb d_M_fired_134 (by decide) ?_
                    refine lv_goto (tgt := 139) hx hb d_M_fired_135 (by decide) ?_
                    have ha9 : bv 1 (R + 1 ≤ c9 ∧ ∀ i, i < (k + 1) → S 19 < A 21 (24 * t + i)) := bv1 ⟨(bv_ne hI2 c_117).1, fun i hi => by
                      by_cases q : i = k
                      · have h9 := Int32.not_le.mp c_131
                        rw [w_80] at h9
                        rw [q]
                        exact h9
                      · exact (bv_ne hI2 c_117).2 i (by omega)⟩
                    refine lv_istore_n (lv' := [(3, .int 1), (2, .int 0), (0, .ref (ad 1000)), (1, .int p0), (4, .int (nI k))]) hx hb d_M_fired_139 rfl hl (by decide) rfl (fun ls hl => ?_)
                    refine lv_iinc (v := nI (k + 1)) (lv' := [(4, .int (nI (k + 1))), (3, .int 1), (2, .int 0), (0, .ref (ad 1000)), (1, .int p0)]) hx hb d_M_fired_140 hl (k := 4) rfl (nI_1 _) (by decide) rfl (fun ls hl => ?_)
                    refine lv_goto (tgt := 56) hx hb d_M_fired_143 (by decide) ?_
                    exact ih56 (k + 1, 0, 1) ls H locs (⟨by omega, by omega, hg9, ha9, by omega⟩) (lv_sub hl [3, 4, 2, 1, 0] rfl) hm
              · refine lv_iconst (v := 1) hx hb d_M_fired_110 (by decide) ?_
                refine lv_goto (tgt := 115) hx hb d_M_fired_111 (by decide) ?_
                have hg9 : bv 1 (R + 1 ≤ c9 ∧ ∀ i, i < (k + 1) → (i = R ∨ A 21 (24 * t + (i + 1)) < A 21 (24 * t + i))) := bv1 ⟨(bv_ne hI1 c_77).1, fun i hi => by
                  by_cases q : i = k
                  · have h9 := Int32.not_le.mp c_107
                    rw [w_75, w_78] at h9
                    rw [q]
                    exact Or.inr h9
                  · exact (bv_ne hI1 c_77).2 i (by omega)⟩
                refine lv_istore_n (lv' := [(2, .int 1), (0, .ref (ad 1000)), (1, .int p0), (3, .int a), (4, .int (nI k))]) hx hb d_M_fired_115 rfl hl (by decide) rfl (fun ls hl => ?_)
                refine lv_iload_n hx hb d_M_fired_116 rfl (lv_at hl 3 rfl) ?_
                refine lv_if_eq (tgt := 138) hx hb d_M_fired_117 (by decide) (fun c_117 => ?_) (fun c_117 => ?_)
                · refine lv_iconst (v := 0) hx hb d_M_fired_138 (by decide) ?_
                  have ha9 : bv 0 (R + 1 ≤ c9 ∧ ∀ i, i < (k + 1) → S 19 < A 21 (24 * t + i)) := bv0 (fun h => bv_eq hI2 c_117 ⟨h.1, fun i hi => h.2 i (by omega)⟩)
                  refine lv_istore_n (lv' := [(3, .int 0), (2, .int 1), (0, .ref (ad 1000)), (1, .int p0), (4, .int (nI k))]) hx hb d_M_fired_139 rfl hl (by decide) rfl (fun ls hl => ?_)
                  refine lv_iinc (v := nI (k + 1)) (lv' := [(4, .int (nI (k + 1))), (3, .int 0), (2, .int 1), (0, .ref (ad 1000)), (1, .int p0)]) hx hb d_M_fired_140 hl (k := 4) rfl (nI_1 _) (by decide) rfl (fun ls hl => ?_)
                  refine lv_goto (tgt := 56) hx hb d_M_fired_143 (by decide) ?_
                  exact ih56 (k + 1, 1, 0) ls H locs (⟨by omega, by omega, hg9, ha9, by omega⟩) (lv_sub hl [3, 4, 2, 1, 0] rfl) hm
                · refine lv_aload_n hx hb d_M_fired_120 rfl (lv_at hl 1 rfl) ?_
                  refine lv_iload_n hx hb d_M_fired_121 rfl (lv_at hl 2 rfl) ?_
                  refine lv_iload hx hb d_M_fired_122 (lv_at hl 4 rfl) ?_
                  refine m_roi (m_runV (As := [.int p0, .int (nI k)]) (rest := []) ⟨hx, hb, hml, hown, hts⟩ (c_M_reading l D dA ad G H.size A B S sd G0 hG p0 (nI k) t k (by omega) ep rfl) (cwV 2 hts (gV k_793 k_790 k_792 ks_14 k_4) rfl rfl rfl (by decide +kernel) ⟨Nat.le_of_ble_eq_true rfl, Nat.le_of_ble_eq_true rfl⟩) hm hA hC 1000 rfl ((congrFun hG 1000).trans gM_o) rfl rfl rfl hl.1 rfl (Nat.le_of_ble_eq_true rfl) d_M_fired_124 ⟨Nat.le_of_ble_eq_true rfl, Nat.le_of_ble_eq_true rfl⟩) hm hA (fun r_81 H locs w_82 hm => ?_)
                  refine lv_aload_n hx hb d_M_fired_127 rfl (lv_at hl 1 rfl) ?_
                  refine m_get (v := .int (S 19)) (C := R_M) (T := T_M) (N := 28) hx hb hT in_M hown hC.1 hm 1000 rfl ((congrFun hG 1000).trans gM_o) rfl 19 (by decide) (hT _ k_609) (fun _ h9 => h9) rfl d_M_fired_128 ?_
                  refine lv_icmp_le (tgt := 138) hx hb d_M_fired_131 (by decide) (fun c_131 => ?_) (fun c_131 => ?_)
                  · refine lv_iconst (v := 0) hx hb d_M_fired_138 (by decide) ?_
                    have ha9 : bv 0 (R + 1 ≤ c9 ∧ ∀ i, i < (k + 1) → S 19 < A 21 (24 * t + i)) := bv0 (fun h => by
                      have h9 := c_131
                      rw [w_82] at h9
                      exact Int32.not_lt.mpr h9 (h.2 k (by omega)))
                    refine lv_istore_n (lv' := [(3, .int 0), (2, .int 1), (0, .ref (ad 1000)), (1, .int p0), (4, .int (nI k))]) hx hb d_M_fired_139 rfl hl (by decide) rfl (fun ls hl => ?_)
                    refine lv_iinc (v := nI (k + 1)) (lv' := [(4, .int (nI (k + 1))), (3, .int 0), (2, .int 1), (0, .ref (ad 1000)), (1, .int p0)]) hx hb d_M_fired_140 hl (k := 4) rfl (nI_1 _) (by decide) rfl (fun ls hl => ?_)
                    refine lv_goto (tgt := 56) hx hb d_M_fired_143 (by decide) ?_
                    exact ih56 (k + 1, 1, 0) ls H locs (⟨by omega, by omega, hg9, ha9, by omega⟩) (lv_sub hl [3, 4, 2, 1, 0] rfl) hm
                  · refine lv_iconst (v := 1) hx hb d_M_fired_134 (by decide) ?_
                    refine lv_goto (tgt := 139) hx hb d_M_fired_135 (by decide) ?_
                    have ha9 : bv 1 (R + 1 ≤ c9 ∧ ∀ i, i < (k + 1) → S 19 < A 21 (24 * t + i)) := bv1 ⟨(bv_ne hI2 c_117).1, fun i hi => by
                      by_cases q : i = k
                      · have h9 := Int32.not_le.mp c_131
                        rw [w_82] at h9
                        rw [q]
                        exact h9
                      · exact (bv_ne hI2 c_117).2 i (by omega)⟩
                    refine lv_istore_n (lv' := [(3, .int 1), (2, .int 1), (0, .ref (ad 1000)), (1, .int p0), (4, .int (nI k))]) hx hb d_M_fired_139 rfl hl (by decide) rfl (fun ls hl => ?_)
                    refine lv_iinc (v := nI (k + 1)) (lv' := [(4, .int (nI (k + 1))), (3, .int 1), (2, .int 1), (0, .ref (ad 1000)), (1, .int p0)]) hx hb d_M_fired_140 hl (k := 4) rfl (nI_1 _) (by decide) rfl (fun ls hl => ?_)
                    refine lv_goto (tgt := 56) hx hb d_M_fired_143 (by decide) ?_
                    exact ih56 (k + 1, 1, 1) ls H locs (⟨by omega, by omega, hg9, ha9, by omega⟩) (lv_sub hl [3, 4, 2, 1, 0] rfl) hm
  · refine lv_iconst (v := 0) hx hb d_M_fired_13 (by decide) ?_
    exact m_iret (v := 0) hx hb hr hm (⟨Or.inl ⟨rfl, by have h9 := Int32.not_le.mp c_10; rw [w_2] at h9; exact h9⟩, rfl⟩) d_M_fired_14 hlocks
