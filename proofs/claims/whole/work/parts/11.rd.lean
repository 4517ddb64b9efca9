set_option maxHeartbeats 4000000 in
set_option maxRecDepth 100000 in
theorem c_Rd_isAbove (l : Launch) (D : va_G) (dA : Nat → ClassId) (ad : Nat → Nat) (G : mG) (sz : Nat) (r rl : Nat) (cn lm : Int32) (f : Nat → Int32) (p0 : Int32) (hg : G r = some (.inr (1, [.ref (ad rl), .int cn, .int lm]))) (ha : G rl = some (.inl (dA 0, 24, .inl f))) : Met l y_Rd_isAbove (.code y_Rd_isAbove b_Rd_isAbove 2 (some .boolean) :: mBig) ({ frames := 0, cells := 0, slots := 0, locals := 0 }) (mPc [.ref (ad r), .int p0] D mCl (mTys dA) mTx ad G sz) (mQi (fun (rv : Int32) (u : mU) => (bv rv (p0 < f 0)) ∧ u = (ad, G)) D mCl ad G sz) 0 0 (mA ad G sz) := by
  refine Met.ofW (cc := b_Rd_isAbove) (maxL := 2) (ret := (some .boolean)) (by decide) rfl ?_
  intro p e s m args below meth c s₁ B hml hv
  obtain ⟨rfl, hsz, hw0, hC⟩ := hv
  have hx := B.exec
  have hb := B.bytes
  have hr := B.returns
  have hts := atoms_spec (ws := .code y_Rd_isAbove b_Rd_isAbove 2 (some .boolean) :: mBig) B.pre
  have hT : ∀ w ∈ mBig, w.before _ s = true := fun w h => hts w (List.mem_cons_of_mem _ h)
  have hown : s.vm.findClass "EdgeWear$Readings" = some m.cls := findClass_of_methodNamed B.named
  have hlocks := B.notSynchronized
  subst hsz
  have hm := mS.start hw0
  have hA : ∀ q : Nat, s.heap.size ≤ q → mA ad G s.heap.size q := fun q h => Or.inr h
  have hl := lv_entry ([.ref (ad r), .int p0]) (n := 2) (Nat.le_of_ble_eq_true rfl)
  rw [lg_entry_eq]
  generalize (lg_sl ([.ref (ad r), .int p0]) ++ List.replicate (2 - (lg_sl ([.ref (ad r), .int p0])).length) Slot.unset).toArray = ls at hl ⊢
  have hl : lv_has ls 2 [(0, .ref (ad r)), (1, .int p0)] := hl
  refine lv_aload_n hx hb d_Rd_isAbove_0 rfl (lv_at hl 0 rfl) ?_
  refine m_get (v := .ref (ad rl)) (C := R_Rd) (T := T_Rd) (N := 3) hx hb hT in_Rd hown hC.1 hm r rfl hg rfl 0 (by decide) (hT _ k_245) (fun _ h9 => h9) rfl d_Rd_isAbove_1 ?_
  refine lv_iconst (v := 0) hx hb d_Rd_isAbove_4 (by decide) ?_
  refine m_iald (v := f 0) hx hb hC.1 hm rl rfl 0 ha rfl (vpc _ _ (by decide)) rfl d_Rd_isAbove_5 ?_
  refine lv_iload_n hx hb d_Rd_isAbove_6 rfl (lv_at hl 1 rfl) ?_
  refine lv_icmp_le (tgt := 14) hx hb d_Rd_isAbove_7 (by decide) (fun c_7 => ?_) (fun c_7 => ?_)
  · refine lv_iconst (v := 0) hx hb d_Rd_isAbove_14 (by decide) ?_
    exact m_zret (v := 0) hx hb hr rfl hm (⟨bv0 (Int32.not_lt.mpr c_7), rfl⟩) d_Rd_isAbove_15 hlocks
  · refine lv_iconst (v := 1) hx hb d_Rd_isAbove_10 (by decide) ?_
    refine lv_goto (tgt := 15) hx hb d_Rd_isAbove_11 (by decide) ?_
    exact m_zret (v := 1) hx hb hr rfl hm (⟨bv1 (Int32.not_le.mp c_7), rfl⟩) d_Rd_isAbove_15 hlocks

set_option maxHeartbeats 4000000 in
set_option maxRecDepth 100000 in
theorem c_Rd_step (l : Launch) (D : va_G) (dA : Nat → ClassId) (ad : Nat → Nat) (G : mG) (sz : Nat) (r rl : Nat) (cn lm : Int32) (f : Nat → Int32) (p0 : Int32) (k : Nat) (hk : p0 = nI k) (hk2 : k < 23) (hg : G r = some (.inr (1, [.ref (ad rl), .int cn, .int lm]))) (ha : G rl = some (.inl (dA 0, 24, .inl f))) : Met l y_Rd_step (.code y_Rd_step b_Rd_step 2 (some .int) :: mBig) ({ frames := 1, cells := 0, slots := 0, locals := 15 }) (mPc [.ref (ad r), .int p0] D mCl (mTys dA) mTx ad G sz) (mQi (fun (rv : Int32) (u : mU) => (rv = if 0 ≤ f k - f (k + 1) then f k - f (k + 1) else 0 - (f k - f (k + 1))) ∧ u = (ad, G)) D mCl ad G sz) 0 0 (mA ad G sz) := by
  refine Met.ofW (cc := b_Rd_step) (maxL := 2) (ret := (some .int)) (by decide) rfl ?_
  intro p e s m args below meth c s₁ B hml hv
  obtain ⟨rfl, hsz, hw0, hC⟩ := hv
  have hx := B.exec
  have hb := B.bytes
  have hr := B.returns
  have hts := atoms_spec (ws := .code y_Rd_step b_Rd_step 2 (some .int) :: mBig) B.pre
  have hT : ∀ w ∈ mBig, w.before _ s = true := fun w h => hts w (List.mem_cons_of_mem _ h)
  have hown : s.vm.findClass "EdgeWear$Readings" = some m.cls := findClass_of_methodNamed B.named
  have hlocks := B.notSynchronized
  subst hsz
  have hm := mS.start hw0
  have hA : ∀ q : Nat, s.heap.size ≤ q → mA ad G s.heap.size q := fun q h => Or.inr h
  have hl := lv_entry ([.ref (ad r), .int p0]) (n := 2) (Nat.le_of_ble_eq_true rfl)
  rw [lg_entry_eq]
  generalize (lg_sl ([.ref (ad r), .int p0]) ++ List.replicate (2 - (lg_sl ([.ref (ad r), .int p0])).length) Slot.unset).toArray = ls at hl ⊢
  have hl : lv_has ls 2 [(0, .ref (ad r)), (1, .int p0)] := hl
  refine lv_aload_n hx hb d_Rd_step_0 rfl (lv_at hl 0 rfl) ?_
  refine m_get (v := .ref (ad rl)) (C := R_Rd) (T := T_Rd) (N := 3) hx hb hT in_Rd hown hC.1 hm r rfl hg rfl 0 (by decide) (hT _ k_245) (fun _ h9 => h9) rfl d_Rd_step_1 ?_
  refine lv_iload_n hx hb d_Rd_step_4 rfl (lv_at hl 1 rfl) ?_
  refine m_iald (v := f k) hx hb hC.1 hm rl rfl 0 ha rfl (by rw [hk]; exact vp_in_nI (by omega) (by decide)) (by rw [hk, nI_clamp (by omega)]) d_Rd_step_5 ?_
  refine lv_aload_n hx hb d_Rd_step_6 rfl (lv_at hl 0 rfl) ?_
  refine m_get (v := .ref (ad rl)) (C := R_Rd) (T := T_Rd) (N := 3) hx hb hT in_Rd hown hC.1 hm r rfl hg rfl 0 (by decide) (hT _ k_245) (fun _ h9 => h9) rfl d_Rd_step_7 ?_
  refine lv_iload_n hx hb d_Rd_step_10 rfl (lv_at hl 1 rfl) ?_
  refine lv_iconst (v := 1) hx hb d_Rd_step_11 (by decide) ?_
  refine lv_iadd hx hb d_Rd_step_12 ?_
  refine lv_topi (fun x_1 ex_1 => ?_)
  refine m_iald (v := f (k + 1)) hx hb hC.1 hm rl rfl 0 ha rfl (by rw [ex_1, hk, nI_1]; exact vp_in_nI (by omega) (by decide)) (by rw [ex_1, hk, nI_1, nI_clamp (by omega)]) d_Rd_step_13 ?_
  refine lv_isub hx hb d_Rd_step_14 ?_
  refine lv_topi (fun x_2 ex_2 => ?_)
  refine va_mabs hx hb (by rw [hml]; exact hl.1.symm) hown (hT _ k_523) (hT _ k_524) (hT _ k_13) (hT _ k_525) (Nat.le_of_ble_eq_true rfl) (Nat.le_of_ble_eq_true rfl) (Nat.zero_le _) (Nat.zero_le _) d_Rd_step_15 ?_
  refine lv_topi (fun x_3 ex_3 => ?_)
  exact m_iret (v := x_3) hx hb hr hm (⟨by rw [ex_3, ex_2], rfl⟩) d_Rd_step_18 hlocks

set_option maxHeartbeats 4000000 in
set_option maxRecDepth 100000 in
theorem c_Rd_isJumping (l : Launch) (D : va_G) (dA : Nat → ClassId) (ad : Nat → Nat) (G : mG) (sz : Nat) (r rl : Nat) (cn lm : Int32) (f : Nat → Int32) (p0 : Int32) (hg : G r = some (.inr (1, [.ref (ad rl), .int cn, .int lm]))) (ha : G rl = some (.inl (dA 0, 24, .inl f))) : Met l y_Rd_isJumping (.code y_Rd_isJumping b_Rd_isJumping 2 (some .boolean) :: mBig) ({ frames := 2, cells := 0, slots := 0, locals := 36 }) (mPc [.ref (ad r), .int p0] D mCl (mTys dA) mTx ad G sz) (mQi (fun (rv : Int32) (u : mU) => (bv rv (3 ≤ cn ∧ p0 < (if 0 ≤ f 0 - f 1 then f 0 - f 1 else 0 - (f 0 - f 1)) + (if 0 ≤ f 1 - f 2 then f 1 - f 2 else 0 - (f 1 - f 2)))) ∧ u = (ad, G)) D mCl ad G sz) 0 0 (mA ad G sz) := by
  refine Met.ofW (cc := b_Rd_isJumping) (maxL := 2) (ret := (some .boolean)) (by decide) rfl ?_
  intro p e s m args below meth c s₁ B hml hv
  obtain ⟨rfl, hsz, hw0, hC⟩ := hv
  have hx := B.exec
  have hb := B.bytes
  have hr := B.returns
  have hts := atoms_spec (ws := .code y_Rd_isJumping b_Rd_isJumping 2 (some .boolean) :: mBig) B.pre
  have hT : ∀ w ∈ mBig, w.before _ s = true := fun w h => hts w (List.mem_cons_of_mem _ h)
  have hown : s.vm.findClass "EdgeWear$Readings" = some m.cls := findClass_of_methodNamed B.named
  have hlocks := B.notSynchronized
  subst hsz
  have hm := mS.start hw0
  have hA : ∀ q : Nat, s.heap.size ≤ q → mA ad G s.heap.size q := fun q h => Or.inr h
  have hl := lv_entry ([.ref (ad r), .int p0]) (n := 2) (Nat.le_of_ble_eq_true rfl)
  rw [lg_entry_eq]
  generalize (lg_sl ([.ref (ad r), .int p0]) ++ List.replicate (2 - (lg_sl ([.ref (ad r), .int p0])).length) Slot.unset).toArray = ls at hl ⊢
  have hl : lv_has ls 2 [(0, .ref (ad r)), (1, .int p0)] := hl
  refine lv_aload_n hx hb d_Rd_isJumping_0 rfl (lv_at hl 0 rfl) ?_
  refine m_get (v := .int cn) (C := R_Rd) (T := T_Rd) (N := 3) hx hb hT in_Rd hown hC.1 hm r rfl hg rfl 1 (by decide) (hT _ k_246) (fun _ h9 => h9) rfl d_Rd_isJumping_1 ?_
  refine lv_iconst (v := 3) hx hb d_Rd_isJumping_4 (by decide) ?_
  refine lv_icmp_lt (tgt := 27) hx hb d_Rd_isJumping_5 (by decide) (fun c_5 => ?_) (fun c_5 => ?_)
  · refine lv_iconst (v := 0) hx hb d_Rd_isJumping_27 (by decide) ?_
    exact m_zret (v := 0) hx hb hr rfl hm (⟨bv0 (fun h => Int32.not_lt.mpr h.1 c_5), rfl⟩) d_Rd_isJumping_28 hlocks
  · refine lv_aload_n hx hb d_Rd_isJumping_8 rfl (lv_at hl 0 rfl) ?_
    refine lv_iconst (v := 0) hx hb d_Rd_isJumping_9 (by decide) ?_
    refine m_roi (m_runV (As := [.int 0]) (rest := []) ⟨hx, hb, hml, hown, hts⟩ (c_Rd_step l D dA ad G s.heap.size r rl cn lm f 0 0 rfl (by decide) hg ha) (cwV 1 hts (gV k_522 k_519 k_520 k_521 k_12) rfl rfl rfl (by decide +kernel) ⟨Nat.le_of_ble_eq_true rfl, Nat.le_of_ble_eq_true rfl⟩) hm hA hC r rfl hg rfl rfl rfl hl.1 rfl (Nat.le_of_ble_eq_true rfl) d_Rd_isJumping_10 ⟨Nat.le_of_ble_eq_true rfl, Nat.le_of_ble_eq_true rfl⟩) hm hA (fun r_1 H locs w_2 hm => ?_)
    refine lv_aload_n hx hb d_Rd_isJumping_13 rfl (lv_at hl 0 rfl) ?_
    refine lv_iconst (v := 1) hx hb d_Rd_isJumping_14 (by decide) ?_
    refine m_roi (m_runV (As := [.int 1]) (rest := [.int r_1]) ⟨hx, hb, hml, hown, hts⟩ (c_Rd_step l D dA ad G H.size r rl cn lm f 1 1 rfl (by decide) hg ha) (cwV 1 hts (gV k_522 k_519 k_520 k_521 k_12) rfl rfl rfl (by decide +kernel) ⟨Nat.le_of_ble_eq_true rfl, Nat.le_of_ble_eq_true rfl⟩) hm hA hC r rfl hg rfl rfl rfl hl.1 rfl (Nat.le_of_ble_eq_true rfl) d_Rd_isJumping_15 ⟨Nat.le_of_ble_eq_true rfl, Nat.le_of_ble_eq_true rfl⟩) hm hA (fun r_3 H locs w_4 hm => ?_)
    refine lv_iadd hx hb d_Rd_isJumping_18 ?_
    refine lv_topi (fun x_5 ex_5 => ?_)
    refine lv_iload_n hx hb d_Rd_isJumping_19 rfl (lv_at hl 1 rfl) ?_
    refine lv_icmp_le (tgt := 27) hx hb d_Rd_isJumping_20 (by decide) (fun c_20 => ?_) (fun c_20 => ?_)
    · refine lv_iconst (v := 0) hx hb d_Rd_isJumping_27 (by decide) ?_
      exact m_zret (v := 0) hx hb hr rfl hm (⟨bv0 (fun h => by rw [ex_5, w_2, w_4] at c_20; exact Int32.not_lt.mpr c_20 h.2), rfl⟩) d_Rd_isJumping_28 hlocks
    · refine lv_iconst (v := 1) hx hb d_Rd_isJumping_23 (by decide) ?_
      refine lv_goto (tgt := 28) hx hb d_Rd_isJumping_24 (by decide) ?_
      exact m_zret (v := 1) hx hb hr rfl hm (⟨bv1 ⟨Int32.not_lt.mp c_5, by rw [ex_5, w_2, w_4] at c_20; exact Int32.not_le.mp c_20⟩, rfl⟩) d_Rd_isJumping_28 hlocks

set_option maxHeartbeats 4000000 in
set_option maxRecDepth 100000 in
theorem c_Rd_isRising (l : Launch) (D : va_G) (dA : Nat → ClassId) (ad : Nat → Nat) (G : mG) (sz : Nat) (r rl : Nat) (cn lm : Int32) (f : Nat → Int32) (p0 : Int32) (k : Nat) (hp : p0 = nI k) (hk1 : 1 ≤ k) (hk2 : k ≤ 24) (hg : G r = some (.inr (1, [.ref (ad rl), .int cn, .int lm]))) (ha : G rl = some (.inl (dA 0, 24, .inl f))) : Met l y_Rd_isRising (.code y_Rd_isRising b_Rd_isRising 3 (some .boolean) :: mBig) ({ frames := 0, cells := 0, slots := 0, locals := 0 }) (mPc [.ref (ad r), .int p0] D mCl (mTys dA) mTx ad G sz) (mQi (fun (rv : Int32) (u : mU) => (bv rv (nI k ≤ cn ∧ ∀ i, i + 1 < k → f (i + 1) < f i)) ∧ u = (ad, G)) D mCl ad G sz) 0 0 (mA ad G sz) := by
  refine Met.ofW (cc := b_Rd_isRising) (maxL := 3) (ret := (some .boolean)) (by decide) rfl ?_
  intro p e s m args below meth c s₁ B hml hv
  obtain ⟨rfl, hsz, hw0, hC⟩ := hv
  have hx := B.exec
  have hb := B.bytes
  have hr := B.returns
  have hts := atoms_spec (ws := .code y_Rd_isRising b_Rd_isRising 3 (some .boolean) :: mBig) B.pre
  have hT : ∀ w ∈ mBig, w.before _ s = true := fun w h => hts w (List.mem_cons_of_mem _ h)
  have hown : s.vm.findClass "EdgeWear$Readings" = some m.cls := findClass_of_methodNamed B.named
  have hlocks := B.notSynchronized
  subst hsz
  have hm := mS.start hw0
  have hA : ∀ q : Nat, s.heap.size ≤ q → mA ad G s.heap.size q := fun q h => Or.inr h
  have hl := lv_entry ([.ref (ad r), .int p0]) (n := 3) (Nat.le_of_ble_eq_true rfl)
  rw [lg_entry_eq]
  generalize (lg_sl ([.ref (ad r), .int p0]) ++ List.replicate (3 - (lg_sl ([.ref (ad r), .int p0])).length) Slot.unset).toArray = ls at hl ⊢
  have hl : lv_has ls 3 [(0, .ref (ad r)), (1, .int p0)] := hl
  refine lv_aload_n hx hb d_Rd_isRising_0 rfl (lv_at hl 0 rfl) ?_
  refine m_get (v := .int cn) (C := R_Rd) (T := T_Rd) (N := 3) hx hb hT in_Rd hown hC.1 hm r rfl hg rfl 1 (by decide) (hT _ k_246) (fun _ h9 => h9) rfl d_Rd_isRising_1 ?_
  refine lv_iload_n hx hb d_Rd_isRising_4 rfl (lv_at hl 1 rfl) ?_
  refine lv_icmp_ge (tgt := 10) hx hb d_Rd_isRising_5 (by decide) (fun c_5 => ?_) (fun c_5 => ?_)
  · refine lv_iconst (v := 0) hx hb d_Rd_isRising_10 (by decide) ?_
    refine lv_istore_n (lv' := [(2, .int 0), (0, .ref (ad r)), (1, .int p0)]) hx hb d_Rd_isRising_11 rfl hl (by decide) rfl (fun ls hl => ?_)
    refine m_loopH (nL := 3) (head := 12) (fun (q9 : Nat) => fun (x : Nat) => match x with | i => q9 + i = k ∧ i + 1 ≤ k ∧ ∀ j, j < i → f (j + 1) < f j) (fun (x : Nat) => match x with | i => [(0, .ref (ad r)), (1, .int p0), (2, .int (nI i))]) (fun _ => G) (fun i h => by have h1 := h.1; have h2 := h.2.1; omega) (fun q9 x ls H locs hI hl hm ih12 => ?_) (k - 1) (0) (⟨by omega, by omega, fun j h => absurd h (Nat.not_lt_zero j)⟩) (lv_sub hl [1, 2, 0] rfl) hm
    obtain ⟨i, ei⟩ : ∃ z, z = x := ⟨_, rfl⟩
    subst ei
    replace hI : (fun (q9 : Nat) => q9 + i = k ∧ i + 1 ≤ k ∧ ∀ j, j < i → f (j + 1) < f j) (q9 + 1) := hI
    have hl : lv_has ls 3 [(0, .ref (ad r)), (1, .int p0), (2, .int (nI i))] := hl
    refine lv_iload_n hx hb d_Rd_isRising_12 rfl (lv_at hl 2 rfl) ?_
    refine lv_iconst (v := 1) hx hb d_Rd_isRising_13 (by decide) ?_
    refine lv_iadd hx hb d_Rd_isRising_14 ?_
    refine lv_topi (fun x_1 ex_1 => ?_)
    refine lv_iload_n hx hb d_Rd_isRising_15 rfl (lv_at hl 1 rfl) ?_
    refine lv_icmp_ge (tgt := 44) hx hb d_Rd_isRising_16 (by decide) (fun c_16 => ?_) (fun c_16 => ?_)
    · refine lv_iconst (v := 1) hx hb d_Rd_isRising_44 (by decide) ?_
      exact m_zret (v := 1) hx hb hr rfl hm (⟨bv1 ⟨by rw [← hp]; exact c_5, fun j hj => hI.2.2 j (by have h9 := c_16; rw [ex_1, hp, nI_1] at h9; have := (nI_leI (by omega) (by omega)).mp h9; omega)⟩, rfl⟩) d_Rd_isRising_45 hlocks
    · have h16 : i + 1 < k := by
        have h9 := c_16
        rw [ex_1, hp, nI_1] at h9
        exact Nat.not_le.mp (fun q => h9 (nI_le q (by omega)))
      refine lv_aload_n hx hb d_Rd_isRising_19 rfl (lv_at hl 0 rfl) ?_
      refine m_get (v := .ref (ad rl)) (C := R_Rd) (T := T_Rd) (N := 3) hx hb hT in_Rd hown hC.1 hm r rfl hg rfl 0 (by decide) (hT _ k_245) (fun _ h9 => h9) rfl d_Rd_isRising_20 ?_
      refine lv_iload_n hx hb d_Rd_isRising_23 rfl (lv_at hl 2 rfl) ?_
      refine m_iald (v := f i) hx hb hC.1 hm rl rfl 0 ha rfl (vp_in_nI (by omega) (by decide)) (by rw [nI_clamp (by omega)]) d_Rd_isRising_24 ?_
      refine lv_aload_n hx hb d_Rd_isRising_25 rfl (lv_at hl 0 rfl) ?_
      refine m_get (v := .ref (ad rl)) (C := R_Rd) (T := T_Rd) (N := 3) hx hb hT in_Rd hown hC.1 hm r rfl hg rfl 0 (by decide) (hT _ k_245) (fun _ h9 => h9) rfl d_Rd_isRising_26 ?_
      refine lv_iload_n hx hb d_Rd_isRising_29 rfl (lv_at hl 2 rfl) ?_
      refine lv_iconst (v := 1) hx hb d_Rd_isRising_30 (by decide) ?_
      refine lv_iadd hx hb d_Rd_isRising_31 ?_
      refine lv_topi (fun x_2 ex_2 => ?_)
      refine m_iald (v := f (i + 1)) hx hb hC.1 hm rl rfl 0 ha rfl (by rw [ex_2, nI_1]; exact vp_in_nI (by omega) (by decide)) (by rw [ex_2, nI_1, nI_clamp (by omega)]) d_Rd_isRising_32 ?_
      refine lv_icmp_gt (tgt := 38) hx hb d_Rd_isRising_33 (by decide) (fun c_33 => ?_) (fun c_33 => ?_)
      · refine lv_iinc (v := nI (i + 1)) (lv' := [(2, .int (nI (i + 1))), (0, .ref (ad r)), (1, .int p0)]) hx hb d_Rd_isRising_38 hl (k := 2) rfl (nI_1 _) (by decide) rfl (fun ls hl => ?_)
        refine lv_goto (tgt := 12) hx hb d_Rd_isRising_41 (by decide) ?_
        exact ih12 (i + 1) ls H locs (⟨by omega, by omega, fun j hj => (Nat.lt_succ_iff_lt_or_eq.mp hj).elim (fun q => hI.2.2 j q) (fun q => by rw [q]; exact c_33)⟩) (lv_sub hl [1, 2, 0] rfl) hm
      · refine lv_iconst (v := 0) hx hb d_Rd_isRising_36 (by decide) ?_
        exact m_zret (v := 0) hx hb hr rfl hm (⟨bv0 (fun h => c_33 (h.2 i h16)), rfl⟩) d_Rd_isRising_37 hlocks
  · refine lv_iconst (v := 0) hx hb d_Rd_isRising_8 (by decide) ?_
    exact m_zret (v := 0) hx hb hr rfl hm (⟨bv0 (fun h => c_5 (by rw [hp]; exact h.1)), rfl⟩) d_Rd_isRising_9 hlocks

set_option maxHeartbeats 4000000 in
set_option maxRecDepth 100000 in
theorem c_Rd_staysAbove (l : Launch) (D : va_G) (dA : Nat → ClassId) (ad : Nat → Nat) (G : mG) (sz : Nat) (r rl : Nat) (cn lm : Int32) (f : Nat → Int32) (p0 p1 : Int32) (k : Nat) (hp : p1 = nI k) (hk2 : k ≤ 24) (hg : G r = some (.inr (1, [.ref (ad rl), .int cn, .int lm]))) (ha : G rl = some (.inl (dA 0, 24, .inl f))) : Met l y_Rd_staysAbove (.code y_Rd_staysAbove b_Rd_staysAbove 4 (some .boolean) :: mBig) ({ frames := 0, cells := 0, slots := 0, locals := 0 }) (mPc [.ref (ad r), .int p0, .int p1] D mCl (mTys dA) mTx ad G sz) (mQi (fun (rv : Int32) (u : mU) => (bv rv (nI k ≤ cn ∧ ∀ i, i < k → p0 < f i)) ∧ u = (ad, G)) D mCl ad G sz) 0 0 (mA ad G sz) := by
  refine Met.ofW (cc := b_Rd_staysAbove) (maxL := 4) (ret := (some .boolean)) (by decide) rfl ?_
  intro p e s m args below meth c s₁ B hml hv
  obtain ⟨rfl, hsz, hw0, hC⟩ := hv
  have hx := B.exec
  have hb := B.bytes
  have hr := B.returns
  have hts := atoms_spec (ws := .code y_Rd_staysAbove b_Rd_staysAbove 4 (some .boolean) :: mBig) B.pre
  have hT : ∀ w ∈ mBig, w.before _ s = true := fun w h => hts w (List.mem_cons_of_mem _ h)
  have hown : s.vm.findClass "EdgeWear$Readings" = some m.cls := findClass_of_methodNamed B.named
  have hlocks := B.notSynchronized
  subst hsz
  have hm := mS.start hw0
  have hA : ∀ q : Nat, s.heap.size ≤ q → mA ad G s.heap.size q := fun q h => Or.inr h
  have hl := lv_entry ([.ref (ad r), .int p0, .int p1]) (n := 4) (Nat.le_of_ble_eq_true rfl)
  rw [lg_entry_eq]
  generalize (lg_sl ([.ref (ad r), .int p0, .int p1]) ++ List.replicate (4 - (lg_sl ([.ref (ad r), .int p0, .int p1])).length) Slot.unset).toArray = ls at hl ⊢
  have hl : lv_has ls 4 [(0, .ref (ad r)), (1, .int p0), (2, .int p1)] := hl
  refine lv_aload_n hx hb d_Rd_staysAbove_0 rfl (lv_at hl 0 rfl) ?_
  refine m_get (v := .int cn) (C := R_Rd) (T := T_Rd) (N := 3) hx hb hT in_Rd hown hC.1 hm r rfl hg rfl 1 (by decide) (hT _ k_246) (fun _ h9 => h9) rfl d_Rd_staysAbove_1 ?_
  refine lv_iload_n hx hb d_Rd_staysAbove_4 rfl (lv_at hl 2 rfl) ?_
  refine lv_icmp_ge (tgt := 10) hx hb d_Rd_staysAbove_5 (by decide) (fun c_5 => ?_) (fun c_5 => ?_)
  · refine lv_iconst (v := 0) hx hb d_Rd_staysAbove_10 (by decide) ?_
    refine lv_istore_n (lv' := [(3, .int 0), (0, .ref (ad r)), (1, .int p0), (2, .int p1)]) hx hb d_Rd_staysAbove_11 rfl hl (by decide) rfl (fun ls hl => ?_)
    refine m_loopH (nL := 4) (head := 12) (fun (q9 : Nat) => fun (x : Nat) => match x with | i => q9 + i = k + 1 ∧ i ≤ k ∧ ∀ j, j < i → p0 < f j) (fun (x : Nat) => match x with | i => [(0, .ref (ad r)), (1, .int p0), (2, .int p1), (3, .int (nI i))]) (fun _ => G) (fun i h => by have h1 := h.1; have h2 := h.2.1; omega) (fun q9 x ls H locs hI hl hm ih12 => ?_) (k) (0) (⟨by omega, by omega, fun j h => absurd h (Nat.not_lt_zero j)⟩) (lv_sub hl [1, 2, 3, 0] rfl) hm
    obtain ⟨i, ei⟩ : ∃ z, z = x := ⟨_, rfl⟩
    subst ei
    replace hI : (fun (q9 : Nat) => q9 + i = k + 1 ∧ i ≤ k ∧ ∀ j, j < i → p0 < f j) (q9 + 1) := hI
    have hl : lv_has ls 4 [(0, .ref (ad r)), (1, .int p0), (2, .int p1), (3, .int (nI i))] := hl
    refine lv_iload_n hx hb d_Rd_staysAbove_12 rfl (lv_at hl 3 rfl) ?_
    refine lv_iload_n hx hb d_Rd_staysAbove_13 rfl (lv_at hl 2 rfl) ?_
    refine lv_icmp_ge (tgt := 35) hx hb d_Rd_staysAbove_14 (by decide) (fun c_14 => ?_) (fun c_14 => ?_)
    · refine lv_iconst (v := 1) hx hb d_Rd_staysAbove_35 (by decide) ?_
      exact m_zret (v := 1) hx hb hr rfl hm (⟨bv1 ⟨by rw [← hp]; exact c_5, fun j hj => hI.2.2 j (by have h9 := c_14; rw [hp] at h9; have := (nI_leI (by omega) (by omega)).mp h9; omega)⟩, rfl⟩) d_Rd_staysAbove_36 hlocks
    · have h14 : i < k := by
        have h9 := c_14
        rw [hp] at h9
        exact Nat.not_le.mp (fun q => h9 (nI_le q (by omega)))
      refine lv_aload_n hx hb d_Rd_staysAbove_17 rfl (lv_at hl 0 rfl) ?_
      refine m_get (v := .ref (ad rl)) (C := R_Rd) (T := T_Rd) (N := 3) hx hb hT in_Rd hown hC.1 hm r rfl hg rfl 0 (by decide) (hT _ k_245) (fun _ h9 => h9) rfl d_Rd_staysAbove_18 ?_
      refine lv_iload_n hx hb d_Rd_staysAbove_21 rfl (lv_at hl 3 rfl) ?_
      refine m_iald (v := f i) hx hb hC.1 hm rl rfl 0 ha rfl (vp_in_nI (by omega) (by decide)) (by rw [nI_clamp (by omega)]) d_Rd_staysAbove_22 ?_
      refine lv_iload_n hx hb d_Rd_staysAbove_23 rfl (lv_at hl 1 rfl) ?_
      refine lv_icmp_gt (tgt := 29) hx hb d_Rd_staysAbove_24 (by decide) (fun c_24 => ?_) (fun c_24 => ?_)
      · refine lv_iinc (v := nI (i + 1)) (lv' := [(3, .int (nI (i + 1))), (0, .ref (ad r)), (1, .int p0), (2, .int p1)]) hx hb d_Rd_staysAbove_29 hl (k := 3) rfl (nI_1 _) (by decide) rfl (fun ls hl => ?_)
        refine lv_goto (tgt := 12) hx hb d_Rd_staysAbove_32 (by decide) ?_
        exact ih12 (i + 1) ls H locs (⟨by omega, by omega, fun j hj => (Nat.lt_succ_iff_lt_or_eq.mp hj).elim (fun q => hI.2.2 j q) (fun q => by rw [q]; exact c_24)⟩) (lv_sub hl [1, 2, 3, 0] rfl) hm
      · refine lv_iconst (v := 0) hx hb d_Rd_staysAbove_27 (by decide) ?_
        exact m_zret (v := 0) hx hb hr rfl hm (⟨bv0 (fun h => c_24 (h.2 i h14)), rfl⟩) d_Rd_staysAbove_28 hlocks
  · refine lv_iconst (v := 0) hx hb d_Rd_staysAbove_8 (by decide) ?_
    exact m_zret (v := 0) hx hb hr rfl hm (⟨bv0 (fun h => c_5 (by rw [hp]; exact h.1)), rfl⟩) d_Rd_staysAbove_9 hlocks
