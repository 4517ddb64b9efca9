set_option maxHeartbeats 4000000 in
set_option maxRecDepth 100000 in
theorem c_So_greatestLife (l : Launch) (D : va_G) (dA : Nat → ClassId) (ad : Nat → Nat) (G : mG) (sz : Nat) (r rl : Nat) (nu lc : Int32) (lim : Int64) (ch fa : Int32) (f : Nat → Int32) (kc : Nat) (hc : lc = nI kc) (hc2 : kc ≤ 40) (hg : G r = some (.inr (3, [.int nu, .ref (ad rl), .int lc, .long lim, .int ch, .int fa]))) (ha : G rl = some (.inl (dA 0, 40, .inl f))) : Met l y_So_greatestLife (.code y_So_greatestLife b_So_greatestLife 3 (some .int) :: mBig) ({ frames := 1, cells := 0, slots := 0, locals := 15 }) (mPc [.ref (ad r)] D mCl (mTys dA) mTx ad G sz) (mQi (fun (rv : Int32) (u : mU) => (rv = eMax f kc) ∧ u = (ad, G)) D mCl ad G sz) 0 0 (mA ad G sz) := by
  refine Met.ofW (cc := b_So_greatestLife) (maxL := 3) (ret := (some .int)) (by decide) rfl ?_
  intro p e s m args below meth c s₁ B hml hv
  obtain ⟨rfl, hsz, hw0, hC⟩ := hv
  have hx := B.exec
  have hb := B.bytes
  have hr := B.returns
  have hts := atoms_spec (ws := .code y_So_greatestLife b_So_greatestLife 3 (some .int) :: mBig) B.pre
  have hT : ∀ w ∈ mBig, w.before _ s = true := fun w h => hts w (List.mem_cons_of_mem _ h)
  have hown : s.vm.findClass "EdgeWear$Sort" = some m.cls := findClass_of_methodNamed B.named
  have hlocks := B.notSynchronized
  subst hsz
  have hm := mS.start hw0
  have hA : ∀ q : Nat, s.heap.size ≤ q → mA ad G s.heap.size q := fun q h => Or.inr h
  have hl := lv_entry ([.ref (ad r)]) (n := 3) (Nat.le_of_ble_eq_true rfl)
  rw [lg_entry_eq]
  generalize (lg_sl ([.ref (ad r)]) ++ List.replicate (3 - (lg_sl ([.ref (ad r)])).length) Slot.unset).toArray = ls at hl ⊢
  have hl : lv_has ls 3 [(0, .ref (ad r))] := hl
  refine lv_iconst (v := 0) hx hb d_So_greatestLife_0 (by decide) ?_
  refine lv_istore_n (lv' := [(1, .int 0), (0, .ref (ad r))]) hx hb d_So_greatestLife_1 rfl hl (by decide) rfl (fun ls hl => ?_)
  refine lv_iconst (v := 0) hx hb d_So_greatestLife_2 (by decide) ?_
  refine lv_istore_n (lv' := [(2, .int 0), (1, .int 0), (0, .ref (ad r))]) hx hb d_So_greatestLife_3 rfl hl (by decide) rfl (fun ls hl => ?_)
  refine m_loopH (nL := 3) (head := 4) (fun (q9 : Nat) => fun (x : Nat) => match x with | i => q9 + i = kc + 1 ∧ i ≤ kc ∧ True) (fun (x : Nat) => match x with | i => [(0, .ref (ad r)), (1, .int (eMax f i)), (2, .int (nI i))]) (fun _ => G) (fun i h => by have h1 := h.1; have h2 := h.2.1; omega) (fun q9 x ls H locs hI hl hm ih4 => ?_) (kc) (0) (⟨by omega, by omega, trivial⟩) (lv_sub hl [2, 1, 0] rfl) hm
  obtain ⟨i, ei⟩ : ∃ z, z = x := ⟨_, rfl⟩
  subst ei
  replace hI : (fun (q9 : Nat) => q9 + i = kc + 1 ∧ i ≤ kc ∧ True) (q9 + 1) := hI
  have hl : lv_has ls 3 [(0, .ref (ad r)), (1, .int (eMax f i)), (2, .int (nI i))] := hl
  refine lv_iload_n hx hb d_So_greatestLife_4 rfl (lv_at hl 2 rfl) ?_
  refine lv_aload_n hx hb d_So_greatestLife_5 rfl (lv_at hl 0 rfl) ?_
  refine m_get (v := .int lc) (C := R_So) (T := T_So) (N := 6) hx hb hT in_So hown hC.1 hm r rfl hg rfl 2 (by decide) (hT _ k_37) (fun _ h9 => h9) rfl d_So_greatestLife_6 ?_
  refine lv_icmp_ge (tgt := 29) hx hb d_So_greatestLife_9 (by decide) (fun c_9 => ?_) (fun c_9 => ?_)
  · have hge : i = kc := by
      have h9 := c_9
      rw [hc] at h9
      have := (nI_leI (by omega) (by omega)).mp h9
      omega
    refine lv_iload_n hx hb d_So_greatestLife_29 rfl (lv_at hl 1 rfl) ?_
    exact m_iret (v := eMax f i) hx hb hr hm (⟨by rw [hge], rfl⟩) d_So_greatestLife_30 hlocks
  · have hlt : i < kc := by
      have h9 := c_9
      rw [hc] at h9
      exact Nat.not_le.mp (fun q => h9 (nI_le q (by omega)))
    refine lv_iload_n hx hb d_So_greatestLife_12 rfl (lv_at hl 1 rfl) ?_
    refine lv_aload_n hx hb d_So_greatestLife_13 rfl (lv_at hl 0 rfl) ?_
    refine m_get (v := .ref (ad rl)) (C := R_So) (T := T_So) (N := 6) hx hb hT in_So hown hC.1 hm r rfl hg rfl 1 (by decide) (hT _ k_35) (fun _ h9 => h9) rfl d_So_greatestLife_14 ?_
    refine lv_iload_n hx hb d_So_greatestLife_17 rfl (lv_at hl 2 rfl) ?_
    refine m_iald (v := f i) hx hb hC.1 hm rl rfl 0 ha rfl (vp_in_nI (by omega) (by decide)) (by rw [nI_clamp (by omega)]) d_So_greatestLife_18 ?_
    refine va_mmax hx hb (by rw [hml]; exact hl.1.symm) hown (hT _ k_451) (hT _ k_452) (hT _ k_13) (hT _ k_453) (Nat.le_of_ble_eq_true rfl) (Nat.le_of_ble_eq_true rfl) (Nat.zero_le _) (Nat.zero_le _) d_So_greatestLife_19 ?_
    refine lv_topi (fun x_1 ex_1 => ?_)
    rw [show x_1 = eMax f (i + 1) from ex_1]
    refine lv_istore_n (lv' := [(1, .int (eMax f (i + 1))), (0, .ref (ad r)), (2, .int (nI i))]) hx hb d_So_greatestLife_22 rfl hl (by decide) rfl (fun ls hl => ?_)
    refine lv_iinc (v := nI (i + 1)) (lv' := [(2, .int (nI (i + 1))), (1, .int (eMax f (i + 1))), (0, .ref (ad r))]) hx hb d_So_greatestLife_23 hl (k := 2) rfl (nI_1 _) (by decide) rfl (fun ls hl => ?_)
    refine lv_goto (tgt := 4) hx hb d_So_greatestLife_26 (by decide) ?_
    exact ih4 (i + 1) ls H locs (⟨by omega, by omega, trivial⟩) (lv_sub hl [2, 1, 0] rfl) hm

set_option maxHeartbeats 4000000 in
set_option maxRecDepth 100000 in
theorem c_So_costAt (l : Launch) (D : va_G) (dA : Nat → ClassId) (ad : Nat → Nat) (G : mG) (sz : Nat) (r rl : Nat) (nu lc : Int32) (lim : Int64) (ch fa : Int32) (f : Nat → Int32) (p0 : Int32) (kc : Nat) (hc : lc = nI kc) (hc2 : kc ≤ 40) (hg : G r = some (.inr (3, [.int nu, .ref (ad rl), .int lc, .long lim, .int ch, .int fa]))) (ha : G rl = some (.inl (dA 0, 40, .inl f))) : Met l y_So_costAt (.code y_So_costAt b_So_costAt 5 (some .long) :: mBig) ({ frames := 0, cells := 0, slots := 0, locals := 0 }) (mPc [.ref (ad r), .int p0] D mCl (mTys dA) mTx ad G sz) (mQl (fun (rv : Int64) (u : mU) => (rv = eCost f ch fa p0 kc) ∧ u = (ad, G)) D mCl ad G sz) 0 0 (mA ad G sz) := by
  refine Met.ofW (cc := b_So_costAt) (maxL := 5) (ret := (some .long)) (by decide) rfl ?_
  intro p e s m args below meth c s₁ B hml hv
  obtain ⟨rfl, hsz, hw0, hC⟩ := hv
  have hx := B.exec
  have hb := B.bytes
  have hr := B.returns
  have hts := atoms_spec (ws := .code y_So_costAt b_So_costAt 5 (some .long) :: mBig) B.pre
  have hT : ∀ w ∈ mBig, w.before _ s = true := fun w h => hts w (List.mem_cons_of_mem _ h)
  have hown : s.vm.findClass "EdgeWear$Sort" = some m.cls := findClass_of_methodNamed B.named
  have hlocks := B.notSynchronized
  subst hsz
  have hm := mS.start hw0
  have hA : ∀ q : Nat, s.heap.size ≤ q → mA ad G s.heap.size q := fun q h => Or.inr h
  have hl := lv_entry ([.ref (ad r), .int p0]) (n := 5) (Nat.le_of_ble_eq_true rfl)
  rw [lg_entry_eq]
  generalize (lg_sl ([.ref (ad r), .int p0]) ++ List.replicate (5 - (lg_sl ([.ref (ad r), .int p0])).length) Slot.unset).toArray = ls at hl ⊢
  have hl : lv_has ls 5 [(0, .ref (ad r)), (1, .int p0)] := hl
  refine lv_lconst (v := 0) hx hb d_So_costAt_0 (by decide) ?_
  refine lv_lstore_n (lv' := [(2, .long 0), (0, .ref (ad r)), (1, .int p0)]) hx hb d_So_costAt_1 rfl hl (by decide) rfl (fun ls hl => ?_)
  refine lv_iconst (v := 0) hx hb d_So_costAt_2 (by decide) ?_
  refine lv_istore (lv' := [(4, .int 0), (2, .long 0), (0, .ref (ad r)), (1, .int p0)]) hx hb d_So_costAt_3 hl (by decide) rfl (fun ls hl => ?_)
  refine m_loopH (nL := 5) (head := 5) (fun (q9 : Nat) => fun (x : Nat) => match x with | i => q9 + i = kc + 1 ∧ i ≤ kc ∧ True) (fun (x : Nat) => match x with | i => [(0, .ref (ad r)), (1, .int p0), (2, .long (eCost f ch fa p0 i)), (4, .int (nI i))]) (fun _ => G) (fun i h => by have h1 := h.1; have h2 := h.2.1; omega) (fun q9 x ls H locs hI hl hm ih5 => ?_) (kc) (0) (⟨by omega, by omega, trivial⟩) (lv_sub hl [2, 3, 1, 0] rfl) hm
  obtain ⟨i, ei⟩ : ∃ z, z = x := ⟨_, rfl⟩
  subst ei
  replace hI : (fun (q9 : Nat) => q9 + i = kc + 1 ∧ i ≤ kc ∧ True) (q9 + 1) := hI
  have hl : lv_has ls 5 [(0, .ref (ad r)), (1, .int p0), (2, .long (eCost f ch fa p0 i)), (4, .int (nI i))] := hl
  refine lv_iload hx hb d_So_costAt_5 (lv_at hl 3 rfl) ?_
  refine lv_aload_n hx hb d_So_costAt_7 rfl (lv_at hl 0 rfl) ?_
  refine m_get (v := .int lc) (C := R_So) (T := T_So) (N := 6) hx hb hT in_So hown hC.1 hm r rfl hg rfl 2 (by decide) (hT _ k_37) (fun _ h9 => h9) rfl d_So_costAt_8 ?_
  refine lv_icmp_ge (tgt := 47) hx hb d_So_costAt_11 (by decide) (fun c_11 => ?_) (fun c_11 => ?_)
  · have hge : i = kc := by
      have h9 := c_11
      rw [hc] at h9
      have := (nI_leI (by omega) (by omega)).mp h9
      omega
    refine lv_lload_n hx hb d_So_costAt_47 rfl (lv_at hl 2 rfl) ?_
    exact m_lret (v := eCost f ch fa p0 i) hx hb hr hm (⟨by rw [hge], rfl⟩) d_So_costAt_48 hlocks
  · have hlt : i < kc := by
      have h9 := c_11
      rw [hc] at h9
      exact Nat.not_le.mp (fun q => h9 (nI_le q (by omega)))
    refine lv_lload_n hx hb d_So_costAt_14 rfl (lv_at hl 2 rfl) ?_
    refine lv_aload_n hx hb d_So_costAt_15 rfl (lv_at hl 0 rfl) ?_
    refine m_get (v := .ref (ad rl)) (C := R_So) (T := T_So) (N := 6) hx hb hT in_So hown hC.1 hm r rfl hg rfl 1 (by decide) (hT _ k_35) (fun _ h9 => h9) rfl d_So_costAt_16 ?_
    refine lv_iload hx hb d_So_costAt_19 (lv_at hl 3 rfl) ?_
    refine m_iald (v := f i) hx hb hC.1 hm rl rfl 0 ha rfl (vp_in_nI (by omega) (by decide)) (by rw [nI_clamp (by omega)]) d_So_costAt_21 ?_
    refine lv_iload_n hx hb d_So_costAt_22 rfl (lv_at hl 1 rfl) ?_
    refine lv_icmp_ge (tgt := 34) hx hb d_So_costAt_23 (by decide) (fun c_23 => ?_) (fun c_23 => ?_)
    · refine lv_aload_n hx hb d_So_costAt_34 rfl (lv_at hl 0 rfl) ?_
      refine m_get (v := .int ch) (C := R_So) (T := T_So) (N := 6) hx hb hT in_So hown hC.1 hm r rfl hg rfl 4 (by decide) (hT _ k_42) (fun _ h9 => h9) rfl d_So_costAt_35 ?_
      refine lv_i2l hx hb d_So_costAt_38 rfl ?_
      refine lv_topl (fun x_1 ex_1 => ?_)
      refine lv_ladd hx hb d_So_costAt_39 ?_
      refine lv_topl (fun x_2 ex_2 => ?_)
      have hq : x_2 = eCost f ch fa p0 (i + 1) := by
        rw [ex_2, ex_1]
        show _ = _ + (if _ then _ else _)
        rw [if_neg (Int32.not_lt.mpr c_23)]
      rw [hq]
      refine lv_lstore_n (lv' := [(2, .long (eCost f ch fa p0 (i + 1))), (0, .ref (ad r)), (1, .int p0), (4, .int (nI i))]) hx hb d_So_costAt_40 rfl hl (by decide) rfl (fun ls hl => ?_)
      refine lv_iinc (v := nI (i + 1)) (lv' := [(4, .int (nI (i + 1))), (2, .long (eCost f ch fa p0 (i + 1))), (0, .ref (ad r)), (1, .int p0)]) hx hb d_So_costAt_41 hl (k := 3) rfl (nI_1 _) (by decide) rfl (fun ls hl => ?_)
      refine lv_goto (tgt := 5) hx hb d_So_costAt_44 (by decide) ?_
      exact ih5 (i + 1) ls H locs (⟨by omega, by omega, trivial⟩) (lv_sub hl [2, 3, 1, 0] rfl) hm
    · refine lv_aload_n hx hb d_So_costAt_26 rfl (lv_at hl 0 rfl) ?_
      refine m_get (v := .int fa) (C := R_So) (T := T_So) (N := 6) hx hb hT in_So hown hC.1 hm r rfl hg rfl 5 (by decide) (hT _ k_44) (fun _ h9 => h9) rfl d_So_costAt_27 ?_
      refine lv_i2l hx hb d_So_costAt_30 rfl ?_
      refine lv_topl (fun x_3 ex_3 => ?_)
      refine lv_goto (tgt := 39) hx hb d_So_costAt_31 (by decide) ?_
      refine lv_ladd hx hb d_So_costAt_39 ?_
      refine lv_topl (fun x_4 ex_4 => ?_)
      have hq : x_4 = eCost f ch fa p0 (i + 1) := by
        rw [ex_4, ex_3]
        show _ = _ + (if _ then _ else _)
        rw [if_pos (Int32.not_le.mp c_23)]
      rw [hq]
      refine lv_lstore_n (lv' := [(2, .long (eCost f ch fa p0 (i + 1))), (0, .ref (ad r)), (1, .int p0), (4, .int (nI i))]) hx hb d_So_costAt_40 rfl hl (by decide) rfl (fun ls hl => ?_)
      refine lv_iinc (v := nI (i + 1)) (lv' := [(4, .int (nI (i + 1))), (2, .long (eCost f ch fa p0 (i + 1))), (0, .ref (ad r)), (1, .int p0)]) hx hb d_So_costAt_41 hl (k := 3) rfl (nI_1 _) (by decide) rfl (fun ls hl => ?_)
      refine lv_goto (tgt := 5) hx hb d_So_costAt_44 (by decide) ?_
      exact ih5 (i + 1) ls H locs (⟨by omega, by omega, trivial⟩) (lv_sub hl [2, 3, 1, 0] rfl) hm

set_option maxHeartbeats 4000000 in
set_option maxRecDepth 100000 in
theorem c_So_usesAt (l : Launch) (D : va_G) (dA : Nat → ClassId) (ad : Nat → Nat) (G : mG) (sz : Nat) (r rl : Nat) (nu lc : Int32) (lim : Int64) (ch fa : Int32) (f : Nat → Int32) (p0 : Int32) (kc : Nat) (hc : lc = nI kc) (hc2 : kc ≤ 40) (hg : G r = some (.inr (3, [.int nu, .ref (ad rl), .int lc, .long lim, .int ch, .int fa]))) (ha : G rl = some (.inl (dA 0, 40, .inl f))) : Met l y_So_usesAt (.code y_So_usesAt b_So_usesAt 5 (some .long) :: mBig) ({ frames := 1, cells := 0, slots := 0, locals := 17 }) (mPc [.ref (ad r), .int p0] D mCl (mTys dA) mTx ad G sz) (mQl (fun (rv : Int64) (u : mU) => (rv = eUses f p0 kc) ∧ u = (ad, G)) D mCl ad G sz) 0 0 (mA ad G sz) := by
  refine Met.ofW (cc := b_So_usesAt) (maxL := 5) (ret := (some .long)) (by decide) rfl ?_
  intro p e s m args below meth c s₁ B hml hv
  obtain ⟨rfl, hsz, hw0, hC⟩ := hv
  have hx := B.exec
  have hb := B.bytes
  have hr := B.returns
  have hts := atoms_spec (ws := .code y_So_usesAt b_So_usesAt 5 (some .long) :: mBig) B.pre
  have hT : ∀ w ∈ mBig, w.before _ s = true := fun w h => hts w (List.mem_cons_of_mem _ h)
  have hown : s.vm.findClass "EdgeWear$Sort" = some m.cls := findClass_of_methodNamed B.named
  have hlocks := B.notSynchronized
  subst hsz
  have hm := mS.start hw0
  have hA : ∀ q : Nat, s.heap.size ≤ q → mA ad G s.heap.size q := fun q h => Or.inr h
  have hl := lv_entry ([.ref (ad r), .int p0]) (n := 5) (Nat.le_of_ble_eq_true rfl)
  rw [lg_entry_eq]
  generalize (lg_sl ([.ref (ad r), .int p0]) ++ List.replicate (5 - (lg_sl ([.ref (ad r), .int p0])).length) Slot.unset).toArray = ls at hl ⊢
  have hl : lv_has ls 5 [(0, .ref (ad r)), (1, .int p0)] := hl
  refine lv_lconst (v := 0) hx hb d_So_usesAt_0 (by decide) ?_
  refine lv_lstore_n (lv' := [(2, .long 0), (0, .ref (ad r)), (1, .int p0)]) hx hb d_So_usesAt_1 rfl hl (by decide) rfl (fun ls hl => ?_)
  refine lv_iconst (v := 0) hx hb d_So_usesAt_2 (by decide) ?_
  refine lv_istore (lv' := [(4, .int 0), (2, .long 0), (0, .ref (ad r)), (1, .int p0)]) hx hb d_So_usesAt_3 hl (by decide) rfl (fun ls hl => ?_)
  refine m_loopH (nL := 5) (head := 5) (fun (q9 : Nat) => fun (x : Nat) => match x with | i => q9 + i = kc + 1 ∧ i ≤ kc ∧ True) (fun (x : Nat) => match x with | i => [(0, .ref (ad r)), (1, .int p0), (2, .long (eUses f p0 i)), (4, .int (nI i))]) (fun _ => G) (fun i h => by have h1 := h.1; have h2 := h.2.1; omega) (fun q9 x ls H locs hI hl hm ih5 => ?_) (kc) (0) (⟨by omega, by omega, trivial⟩) (lv_sub hl [2, 3, 1, 0] rfl) hm
  obtain ⟨i, ei⟩ : ∃ z, z = x := ⟨_, rfl⟩
  subst ei
  replace hI : (fun (q9 : Nat) => q9 + i = kc + 1 ∧ i ≤ kc ∧ True) (q9 + 1) := hI
  have hl : lv_has ls 5 [(0, .ref (ad r)), (1, .int p0), (2, .long (eUses f p0 i)), (4, .int (nI i))] := hl
  refine lv_iload hx hb d_So_usesAt_5 (lv_at hl 3 rfl) ?_
  refine lv_aload_n hx hb d_So_usesAt_7 rfl (lv_at hl 0 rfl) ?_
  refine m_get (v := .int lc) (C := R_So) (T := T_So) (N := 6) hx hb hT in_So hown hC.1 hm r rfl hg rfl 2 (by decide) (hT _ k_37) (fun _ h9 => h9) rfl d_So_usesAt_8 ?_
  refine lv_icmp_ge (tgt := 35) hx hb d_So_usesAt_11 (by decide) (fun c_11 => ?_) (fun c_11 => ?_)
  · have hge : i = kc := by
      have h9 := c_11
      rw [hc] at h9
      have := (nI_leI (by omega) (by omega)).mp h9
      omega
    refine lv_lload_n hx hb d_So_usesAt_35 rfl (lv_at hl 2 rfl) ?_
    exact m_lret (v := eUses f p0 i) hx hb hr hm (⟨by rw [hge], rfl⟩) d_So_usesAt_36 hlocks
  · have hlt : i < kc := by
      have h9 := c_11
      rw [hc] at h9
      exact Nat.not_le.mp (fun q => h9 (nI_le q (by omega)))
    refine lv_lload_n hx hb d_So_usesAt_14 rfl (lv_at hl 2 rfl) ?_
    refine lv_aload_n hx hb d_So_usesAt_15 rfl (lv_at hl 0 rfl) ?_
    refine m_get (v := .ref (ad rl)) (C := R_So) (T := T_So) (N := 6) hx hb hT in_So hown hC.1 hm r rfl hg rfl 1 (by decide) (hT _ k_35) (fun _ h9 => h9) rfl d_So_usesAt_16 ?_
    refine lv_iload hx hb d_So_usesAt_19 (lv_at hl 3 rfl) ?_
    refine m_iald (v := f i) hx hb hC.1 hm rl rfl 0 ha rfl (vp_in_nI (by omega) (by decide)) (by rw [nI_clamp (by omega)]) d_So_usesAt_21 ?_
    refine lv_iload_n hx hb d_So_usesAt_22 rfl (lv_at hl 1 rfl) ?_
    refine va_mmin hx hb (by rw [hml]; exact hl.1.symm) hown (hT _ k_435) (hT _ k_436) (hT _ k_13) (hT _ k_437) (Nat.le_of_ble_eq_true rfl) (Nat.le_of_ble_eq_true rfl) (Nat.zero_le _) (Nat.zero_le _) d_So_usesAt_23 ?_
    refine lv_topi (fun x_1 ex_1 => ?_)
    refine lv_i2l hx hb d_So_usesAt_26 rfl ?_
    refine lv_topl (fun x_2 ex_2 => ?_)
    refine lv_ladd hx hb d_So_usesAt_27 ?_
    refine lv_topl (fun x_3 ex_3 => ?_)
    rw [show x_3 = eUses f p0 (i + 1) from by rw [ex_3, ex_2, ex_1]; rfl]
    refine lv_lstore_n (lv' := [(2, .long (eUses f p0 (i + 1))), (0, .ref (ad r)), (1, .int p0), (4, .int (nI i))]) hx hb d_So_usesAt_28 rfl hl (by decide) rfl (fun ls hl => ?_)
    refine lv_iinc (v := nI (i + 1)) (lv' := [(4, .int (nI (i + 1))), (2, .long (eUses f p0 (i + 1))), (0, .ref (ad r)), (1, .int p0)]) hx hb d_So_usesAt_29 hl (k := 3) rfl (nI_1 _) (by decide) rfl (fun ls hl => ?_)
    refine lv_goto (tgt := 5) hx hb d_So_usesAt_32 (by decide) ?_
    exact ih5 (i + 1) ls H locs (⟨by omega, by omega, trivial⟩) (lv_sub hl [2, 3, 1, 0] rfl) hm

set_option maxHeartbeats 4000000 in
set_option maxRecDepth 100000 in
theorem c_So_isBetter (l : Launch) (D : va_G) (dA : Nat → ClassId) (ad : Nat → Nat) (G : mG) (sz : Nat) (r rl : Nat) (nu lc : Int32) (lim : Int64) (ch fa : Int32) (f : Nat → Int32) (p0 p1 : Int32) (kc : Nat) (hc : lc = nI kc) (hc2 : kc ≤ 40) (hg : G r = some (.inr (3, [.int nu, .ref (ad rl), .int lc, .long lim, .int ch, .int fa]))) (ha : G rl = some (.inl (dA 0, 40, .inl f))) : Met l y_So_isBetter (.code y_So_isBetter b_So_isBetter 7 (some .boolean) :: mBig) ({ frames := 2, cells := 0, slots := 0, locals := 41 }) (mPc [.ref (ad r), .int p0, .int p1] D mCl (mTys dA) mTx ad G sz) (mQi (fun (rv : Int32) (u : mU) => (bv rv (eBetter f ch fa kc p0 p1)) ∧ u = (ad, G)) D mCl ad G sz) 0 0 (mA ad G sz) := by
  refine Met.ofW (cc := b_So_isBetter) (maxL := 7) (ret := (some .boolean)) (by decide) rfl ?_
  intro p e s m args below meth c s₁ B hml hv
  obtain ⟨rfl, hsz, hw0, hC⟩ := hv
  have hx := B.exec
  have hb := B.bytes
  have hr := B.returns
  have hts := atoms_spec (ws := .code y_So_isBetter b_So_isBetter 7 (some .boolean) :: mBig) B.pre
  have hT : ∀ w ∈ mBig, w.before _ s = true := fun w h => hts w (List.mem_cons_of_mem _ h)
  have hown : s.vm.findClass "EdgeWear$Sort" = some m.cls := findClass_of_methodNamed B.named
  have hlocks := B.notSynchronized
  subst hsz
  have hm := mS.start hw0
  have hA : ∀ q : Nat, s.heap.size ≤ q → mA ad G s.heap.size q := fun q h => Or.inr h
  have hl := lv_entry ([.ref (ad r), .int p0, .int p1]) (n := 7) (Nat.le_of_ble_eq_true rfl)
  rw [lg_entry_eq]
  generalize (lg_sl ([.ref (ad r), .int p0, .int p1]) ++ List.replicate (7 - (lg_sl ([.ref (ad r), .int p0, .int p1])).length) Slot.unset).toArray = ls at hl ⊢
  have hl : lv_has ls 7 [(0, .ref (ad r)), (1, .int p0), (2, .int p1)] := hl
  refine lv_aload_n hx hb d_So_isBetter_0 rfl (lv_at hl 0 rfl) ?_
  refine lv_iload_n hx hb d_So_isBetter_1 rfl (lv_at hl 1 rfl) ?_
  refine m_rol (m_runV (As := [.int p0]) (rest := []) ⟨hx, hb, hml, hown, hts⟩ (c_So_costAt l D dA ad G s.heap.size r rl nu lc lim ch fa f p0 kc hc hc2 hg ha) (cwV 1 hts (gV k_430 k_427 k_428 k_429 k_2) rfl rfl rfl (by decide +kernel) ⟨Nat.le_of_ble_eq_true rfl, Nat.le_of_ble_eq_true rfl⟩) hm hA hC r rfl hg rfl rfl rfl hl.1 rfl (Nat.le_of_ble_eq_true rfl) d_So_isBetter_2 ⟨Nat.le_of_ble_eq_true rfl, Nat.le_of_ble_eq_true rfl⟩) hm hA (fun r_1 H locs w_2 hm => ?_)
  refine lv_aload_n hx hb d_So_isBetter_5 rfl (lv_at hl 0 rfl) ?_
  refine lv_iload_n hx hb d_So_isBetter_6 rfl (lv_at hl 2 rfl) ?_
  refine m_rol (m_runV (As := [.int p1]) (rest := [.long r_1]) ⟨hx, hb, hml, hown, hts⟩ (c_So_usesAt l D dA ad G H.size r rl nu lc lim ch fa f p1 kc hc hc2 hg ha) (cwV 1 hts (gV k_434 k_431 k_432 k_433 k_2) rfl rfl rfl (by decide +kernel) ⟨Nat.le_of_ble_eq_true rfl, Nat.le_of_ble_eq_true rfl⟩) hm hA hC r rfl hg rfl rfl rfl hl.1 rfl (Nat.le_of_ble_eq_true rfl) d_So_isBetter_7 ⟨Nat.le_of_ble_eq_true rfl, Nat.le_of_ble_eq_true rfl⟩) hm hA (fun r_3 H locs w_4 hm => ?_)
  refine lv_lmul hx hb d_So_isBetter_10 ?_
  refine lv_topl (fun x_5 ex_5 => ?_)
  refine lv_lstore_n (lv' := [(3, .long x_5), (0, .ref (ad r)), (1, .int p0), (2, .int p1)]) hx hb d_So_isBetter_11 rfl hl (by decide) rfl (fun ls hl => ?_)
  refine lv_aload_n hx hb d_So_isBetter_12 rfl (lv_at hl 1 rfl) ?_
  refine lv_iload_n hx hb d_So_isBetter_13 rfl (lv_at hl 3 rfl) ?_
  refine m_rol (m_runV (As := [.int p1]) (rest := []) ⟨hx, hb, hml, hown, hts⟩ (c_So_costAt l D dA ad G H.size r rl nu lc lim ch fa f p1 kc hc hc2 hg ha) (cwV 1 hts (gV k_430 k_427 k_428 k_429 k_2) rfl rfl rfl (by decide +kernel) ⟨Nat.le_of_ble_eq_true rfl, Nat.le_of_ble_eq_true rfl⟩) hm hA hC r rfl hg rfl rfl rfl hl.1 rfl (Nat.le_of_ble_eq_true rfl) d_So_isBetter_14 ⟨Nat.le_of_ble_eq_true rfl, Nat.le_of_ble_eq_true rfl⟩) hm hA (fun r_6 H locs w_7 hm => ?_)
  refine lv_aload_n hx hb d_So_isBetter_17 rfl (lv_at hl 1 rfl) ?_
  refine lv_iload_n hx hb d_So_isBetter_18 rfl (lv_at hl 2 rfl) ?_
  refine m_rol (m_runV (As := [.int p0]) (rest := [.long r_6]) ⟨hx, hb, hml, hown, hts⟩ (c_So_usesAt l D dA ad G H.size r rl nu lc lim ch fa f p0 kc hc hc2 hg ha) (cwV 1 hts (gV k_434 k_431 k_432 k_433 k_2) rfl rfl rfl (by decide +kernel) ⟨Nat.le_of_ble_eq_true rfl, Nat.le_of_ble_eq_true rfl⟩) hm hA hC r rfl hg rfl rfl rfl hl.1 rfl (Nat.le_of_ble_eq_true rfl) d_So_isBetter_19 ⟨Nat.le_of_ble_eq_true rfl, Nat.le_of_ble_eq_true rfl⟩) hm hA (fun r_8 H locs w_9 hm => ?_)
  refine lv_lmul hx hb d_So_isBetter_22 ?_
  refine lv_topl (fun x_10 ex_10 => ?_)
  refine lv_lstore (lv' := [(5, .long x_10), (3, .long x_5), (0, .ref (ad r)), (1, .int p0), (2, .int p1)]) hx hb d_So_isBetter_23 hl (by decide) rfl (fun ls hl => ?_)
  refine lv_lload_n hx hb d_So_isBetter_25 rfl (lv_at hl 1 rfl) ?_
  refine lv_lload hx hb d_So_isBetter_26 (lv_at hl 0 rfl) ?_
  refine W.lcmp hx hb d_So_isBetter_28 ?_
  refine lv_if_lt (tgt := 44) hx hb d_So_isBetter_29 (by decide) (fun c_29 => ?_) (fun c_29 => ?_)
  · refine lv_iconst (v := 1) hx hb d_So_isBetter_44 (by decide) ?_
    refine lv_goto (tgt := 49) hx hb d_So_isBetter_45 (by decide) ?_
    exact m_zret (v := 1) hx hb hr rfl hm (⟨bv1 (Or.inl (by have h9 := (lg_lt _ _).mp c_29; rw [ex_5, ex_10, w_2, w_4, w_7, w_9] at h9; exact h9)), rfl⟩) d_So_isBetter_49 hlocks
  · refine lv_lload_n hx hb d_So_isBetter_32 rfl (lv_at hl 1 rfl) ?_
    refine lv_lload hx hb d_So_isBetter_33 (lv_at hl 0 rfl) ?_
    refine W.lcmp hx hb d_So_isBetter_35 ?_
    refine lv_if_ne (tgt := 48) hx hb d_So_isBetter_36 (by decide) (fun c_36 => ?_) (fun c_36 => ?_)
    · refine lv_iconst (v := 0) hx hb d_So_isBetter_48 (by decide) ?_
      exact m_zret (v := 0) hx hb hr rfl hm (⟨bv0 (fun h => h.elim (fun h => by have h9 := fun q => c_29 ((lg_lt _ _).mpr q); rw [ex_5, ex_10, w_2, w_4, w_7, w_9] at h9; exact h9 h) (fun h => by have h9 := fun q => c_36 ((lg_eq _ _).mpr q); rw [ex_5, ex_10, w_2, w_4, w_7, w_9] at h9; exact h9 h.1)), rfl⟩) d_So_isBetter_49 hlocks
    · refine lv_iload_n hx hb d_So_isBetter_39 rfl (lv_at hl 3 rfl) ?_
      refine lv_iload_n hx hb d_So_isBetter_40 rfl (lv_at hl 4 rfl) ?_
      refine lv_icmp_le (tgt := 48) hx hb d_So_isBetter_41 (by decide) (fun c_41 => ?_) (fun c_41 => ?_)
      · refine lv_iconst (v := 0) hx hb d_So_isBetter_48 (by decide) ?_
        exact m_zret (v := 0) hx hb hr rfl hm (⟨bv0 (fun h => h.elim (fun h => by have h9 := fun q => c_29 ((lg_lt _ _).mpr q); rw [ex_5, ex_10, w_2, w_4, w_7, w_9] at h9; exact h9 h) (fun h => Int32.not_lt.mpr c_41 h.2)), rfl⟩) d_So_isBetter_49 hlocks
      · refine lv_iconst (v := 1) hx hb d_So_isBetter_44 (by decide) ?_
        refine lv_goto (tgt := 49) hx hb d_So_isBetter_45 (by decide) ?_
        exact m_zret (v := 1) hx hb hr rfl hm (⟨bv1 (Or.inr ⟨by have h9 := (lg_eq _ _).mp c_36; rw [ex_5, ex_10, w_2, w_4, w_7, w_9] at h9; exact h9, Int32.not_le.mp c_41⟩), rfl⟩) d_So_isBetter_49 hlocks

set_option maxHeartbeats 4000000 in
set_option maxRecDepth 100000 in
theorem c_So_bestUses (l : Launch) (D : va_G) (dA : Nat → ClassId) (ad : Nat → Nat) (G : mG) (sz : Nat) (r rl : Nat) (nu lc : Int32) (lim : Int64) (ch fa : Int32) (f : Nat → Int32) (kc : Nat) (hc : lc = nI kc) (hc2 : kc ≤ 40) (hc1 : 1 ≤ kc) (hg : G r = some (.inr (3, [.int nu, .ref (ad rl), .int lc, .long lim, .int ch, .int fa]))) (ha : G rl = some (.inl (dA 0, 40, .inl f))) : Met l y_So_bestUses (.code y_So_bestUses b_So_bestUses 3 (some .int) :: mBig) ({ frames := 3, cells := 0, slots := 0, locals := 67 }) (mPc [.ref (ad r)] D mCl (mTys dA) mTx ad G sz) (mQi (fun (rv : Int32) (u : mU) => (rv = eBest f ch fa kc (kc - 1)) ∧ u = (ad, G)) D mCl ad G sz) 0 0 (mA ad G sz) := by
  refine Met.ofW (cc := b_So_bestUses) (maxL := 3) (ret := (some .int)) (by decide) rfl ?_
  intro p e s m args below meth c s₁ B hml hv
  obtain ⟨rfl, hsz, hw0, hC⟩ := hv
  have hx := B.exec
  have hb := B.bytes
  have hr := B.returns
  have hts := atoms_spec (ws := .code y_So_bestUses b_So_bestUses 3 (some .int) :: mBig) B.pre
  have hT : ∀ w ∈ mBig, w.before _ s = true := fun w h => hts w (List.mem_cons_of_mem _ h)
  have hown : s.vm.findClass "EdgeWear$Sort" = some m.cls := findClass_of_methodNamed B.named
  have hlocks := B.notSynchronized
  subst hsz
  have hm := mS.start hw0
  have hA : ∀ q : Nat, s.heap.size ≤ q → mA ad G s.heap.size q := fun q h => Or.inr h
  have hl := lv_entry ([.ref (ad r)]) (n := 3) (Nat.le_of_ble_eq_true rfl)
  rw [lg_entry_eq]
  generalize (lg_sl ([.ref (ad r)]) ++ List.replicate (3 - (lg_sl ([.ref (ad r)])).length) Slot.unset).toArray = ls at hl ⊢
  have hl : lv_has ls 3 [(0, .ref (ad r))] := hl
  refine lv_aload_n hx hb d_So_bestUses_0 rfl (lv_at hl 0 rfl) ?_
  refine m_get (v := .ref (ad rl)) (C := R_So) (T := T_So) (N := 6) hx hb hT in_So hown hC.1 hm r rfl hg rfl 1 (by decide) (hT _ k_35) (fun _ h9 => h9) rfl d_So_bestUses_1 ?_
  refine lv_iconst (v := 0) hx hb d_So_bestUses_4 (by decide) ?_
  refine m_iald (v := f 0) hx hb hC.1 hm rl rfl 0 ha rfl (vpc _ _ (by decide)) rfl d_So_bestUses_5 ?_
  refine lv_istore_n (lv' := [(1, .int (f 0)), (0, .ref (ad r))]) hx hb d_So_bestUses_6 rfl hl (by decide) rfl (fun ls hl => ?_)
  refine lv_iconst (v := 1) hx hb d_So_bestUses_7 (by decide) ?_
  refine lv_istore_n (lv' := [(2, .int 1), (1, .int (f 0)), (0, .ref (ad r))]) hx hb d_So_bestUses_8 rfl hl (by decide) rfl (fun ls hl => ?_)
  refine m_loopH (nL := 3) (head := 9) (fun (q9 : Nat) => fun (x : Nat) => match x with | j => q9 + j = kc ∧ j + 1 ≤ kc ∧ True) (fun (x : Nat) => match x with | j => [(0, .ref (ad r)), (1, .int (eBest f ch fa kc j)), (2, .int (nI (j + 1)))]) (fun _ => G) (fun j h => by have h1 := h.1; have h2 := h.2.1; omega) (fun q9 x ls H locs hI hl hm ih9 => ?_) (kc - 1) (0) (⟨by omega, by omega, trivial⟩) (lv_sub hl [2, 1, 0] rfl) hm
  obtain ⟨j, ej⟩ : ∃ z, z = x := ⟨_, rfl⟩
  subst ej
  replace hI : (fun (q9 : Nat) => q9 + j = kc ∧ j + 1 ≤ kc ∧ True) (q9 + 1) := hI
  have hl : lv_has ls 3 [(0, .ref (ad r)), (1, .int (eBest f ch fa kc j)), (2, .int (nI (j + 1)))] := hl
  refine lv_iload_n hx hb d_So_bestUses_9 rfl (lv_at hl 2 rfl) ?_
  refine lv_aload_n hx hb d_So_bestUses_10 rfl (lv_at hl 0 rfl) ?_
  refine m_get (v := .int lc) (C := R_So) (T := T_So) (N := 6) hx hb hT in_So hown hC.1 hm r rfl hg rfl 2 (by decide) (hT _ k_37) (fun _ h9 => h9) rfl d_So_bestUses_11 ?_
  refine lv_icmp_ge (tgt := 44) hx hb d_So_bestUses_14 (by decide) (fun c_14 => ?_) (fun c_14 => ?_)
  · have hge : kc - 1 = j := by
      have h9 := c_14
      rw [hc] at h9
      have := (nI_leI (by omega) (by omega)).mp h9
      omega
    refine lv_iload_n hx hb d_So_bestUses_44 rfl (lv_at hl 1 rfl) ?_
    exact m_iret (v := eBest f ch fa kc j) hx hb hr hm (⟨by rw [hge], rfl⟩) d_So_bestUses_45 hlocks
  · have hlt : j + 1 < kc := by
      have h9 := c_14
      rw [hc] at h9
      exact Nat.not_le.mp (fun q => h9 (nI_le q (by omega)))
    refine lv_aload_n hx hb d_So_bestUses_17 rfl (lv_at hl 0 rfl) ?_
    refine lv_aload_n hx hb d_So_bestUses_18 rfl (lv_at hl 0 rfl) ?_
    refine m_get (v := .ref (ad rl)) (C := R_So) (T := T_So) (N := 6) hx hb hT in_So hown hC.1 hm r rfl hg rfl 1 (by decide) (hT _ k_35) (fun _ h9 => h9) rfl d_So_bestUses_19 ?_
    refine lv_iload_n hx hb d_So_bestUses_22 rfl (lv_at hl 2 rfl) ?_
    refine m_iald (v := f (j + 1)) hx hb hC.1 hm rl rfl 0 ha rfl (vp_in_nI (by omega) (by decide)) (by rw [nI_clamp (by omega)]) d_So_bestUses_23 ?_
    refine lv_iload_n hx hb d_So_bestUses_24 rfl (lv_at hl 1 rfl) ?_
    refine m_roi (m_runV (As := [.int (f (j + 1)), .int (eBest f ch fa kc j)]) (rest := []) ⟨hx, hb, hml, hown, hts⟩ (c_So_isBetter l D dA ad G H.size r rl nu lc lim ch fa f (f (j + 1)) (eBest f ch fa kc j) kc hc hc2 hg ha) (cwV 2 hts (gV k_426 k_423 k_424 k_425 k_2) rfl rfl rfl (by decide +kernel) ⟨Nat.le_of_ble_eq_true rfl, Nat.le_of_ble_eq_true rfl⟩) hm hA hC r rfl hg rfl rfl rfl hl.1 rfl (Nat.le_of_ble_eq_true rfl) d_So_bestUses_25 ⟨Nat.le_of_ble_eq_true rfl, Nat.le_of_ble_eq_true rfl⟩) hm hA (fun r_1 H locs w_2 hm => ?_)
    refine lv_if_eq (tgt := 38) hx hb d_So_bestUses_28 (by decide) (fun c_28 => ?_) (fun c_28 => ?_)
    · have hl : lv_has ls 3 [(0, .ref (ad r)), (1, .int (eBest f ch fa kc (j + 1))), (2, .int (nI (j + 1)))] := by rw [show eBest f ch fa kc (j + 1) = eBest f ch fa kc j from eBest_neg (bv_eq w_2 c_28)]; exact hl
      refine lv_iinc (v := nI ((j + 1) + 1)) (lv' := [(2, .int (nI ((j + 1) + 1))), (0, .ref (ad r)), (1, .int (eBest f ch fa kc (j + 1)))]) hx hb d_So_bestUses_38 hl (k := 2) rfl (nI_1 _) (by decide) rfl (fun ls hl => ?_)
      refine lv_goto (tgt := 9) hx hb d_So_bestUses_41 (by decide) ?_
      exact ih9 (j + 1) ls H locs (⟨by omega, by omega, trivial⟩) (lv_sub hl [1, 2, 0] rfl) hm
    · refine lv_aload_n hx hb d_So_bestUses_31 rfl (lv_at hl 0 rfl) ?_
      refine m_get (v := .ref (ad rl)) (C := R_So) (T := T_So) (N := 6) hx hb hT in_So hown hC.1 hm r rfl hg rfl 1 (by decide) (hT _ k_35) (fun _ h9 => h9) rfl d_So_bestUses_32 ?_
      refine lv_iload_n hx hb d_So_bestUses_35 rfl (lv_at hl 2 rfl) ?_
      refine m_iald (v := f (j + 1)) hx hb hC.1 hm rl rfl 0 ha rfl (vp_in_nI (by omega) (by decide)) (by rw [nI_clamp (by omega)]) d_So_bestUses_36 ?_
      refine lv_istore_n (lv' := [(1, .int (f (j + 1))), (0, .ref (ad r)), (2, .int (nI (j + 1)))]) hx hb d_So_bestUses_37 rfl hl (by decide) rfl (fun ls hl => ?_)
      have hl : lv_has ls 3 [(1, .int (eBest f ch fa kc (j + 1))), (0, .ref (ad r)), (2, .int (nI (j + 1)))] := by rw [show eBest f ch fa kc (j + 1) = f (j + 1) from eBest_pos (bv_ne w_2 c_28)]; exact hl
      refine lv_iinc (v := nI ((j + 1) + 1)) (lv' := [(2, .int (nI ((j + 1) + 1))), (1, .int (eBest f ch fa kc (j + 1))), (0, .ref (ad r))]) hx hb d_So_bestUses_38 hl (k := 2) rfl (nI_1 _) (by decide) rfl (fun ls hl => ?_)
      refine lv_goto (tgt := 9) hx hb d_So_bestUses_41 (by decide) ?_
      exact ih9 (j + 1) ls H locs (⟨by omega, by omega, trivial⟩) (lv_sub hl [2, 1, 0] rfl) hm
