set_option maxHeartbeats 4000000 in
set_option maxRecDepth 100000 in
theorem c_To_isBlunt (l : Launch) (D : va_G) (dA : Nat → ClassId) (ad : Nat → Nat) (G : mG) (sz : Nat) (r rs rr : Nat) (le ln : Int32) (we us gr : Int64) (ba ou : Int32) (rl : Nat) (nu lc : Int32) (lim : Int64) (ch fa : Int32) (hg : G r = some (.inr (4, [.ref (ad rs), .int le, .ref (ad rr), .int ln, .long we, .long us, .long gr, .int ba, .int ou]))) (hs : G rs = some (.inr (3, [.int nu, .ref (ad rl), .int lc, .long lim, .int ch, .int fa]))) : Met l y_To_isBlunt (.code y_To_isBlunt b_To_isBlunt 1 (some .boolean) :: mBig) ({ frames := 0, cells := 0, slots := 0, locals := 0 }) (mPc [.ref (ad r)] D mCl (mTys dA) mTx ad G sz) (mQi (fun (rv : Int32) (u : mU) => (rv = if lim < we then 1 else 0) ∧ u = (ad, G)) D mCl ad G sz) 0 0 (mA ad G sz) := by
  refine Met.ofW (cc := b_To_isBlunt) (maxL := 1) (ret := (some .boolean)) (by decide) rfl ?_
  intro p e s m args below meth c s₁ B hml hv
  obtain ⟨rfl, hsz, hw0, hC⟩ := hv
  have hx := B.exec
  have hb := B.bytes
  have hr := B.returns
  have hts := atoms_spec (ws := .code y_To_isBlunt b_To_isBlunt 1 (some .boolean) :: mBig) B.pre
  have hT : ∀ w ∈ mBig, w.before _ s = true := fun w h => hts w (List.mem_cons_of_mem _ h)
  have hown : s.vm.findClass "EdgeWear$Tool" = some m.cls := findClass_of_methodNamed B.named
  have hlocks := B.notSynchronized
  subst hsz
  have hm := mS.start hw0
  have hA : ∀ q : Nat, s.heap.size ≤ q → mA ad G s.heap.size q := fun q h => Or.inr h
  have hl := lv_entry ([.ref (ad r)]) (n := 1) (Nat.le_of_ble_eq_true rfl)
  rw [lg_entry_eq]
  generalize (lg_sl ([.ref (ad r)]) ++ List.replicate (1 - (lg_sl ([.ref (ad r)])).length) Slot.unset).toArray = ls at hl ⊢
  have hl : lv_has ls 1 [(0, .ref (ad r))] := hl
  refine lv_aload_n hx hb d_To_isBlunt_0 rfl (lv_at hl 0 rfl) ?_
  refine m_get (v := .long we) (C := R_To) (T := T_To) (N := 9) hx hb hT in_To hown hC.1 hm r rfl hg rfl 4 (by decide) (hT _ k_263) (fun _ h9 => h9) rfl d_To_isBlunt_1 ?_
  refine lv_aload_n hx hb d_To_isBlunt_4 rfl (lv_at hl 0 rfl) ?_
  refine m_get (v := .ref (ad rs)) (C := R_To) (T := T_To) (N := 9) hx hb hT in_To hown hC.1 hm r rfl hg rfl 0 (by decide) (hT _ k_256) (fun _ h9 => h9) rfl d_To_isBlunt_5 ?_
  refine m_get (v := .long lim) (C := R_So) (T := T_So) (N := 6) hx hb hT in_So hown hC.1 hm rs rfl hs rfl 3 (by decide) (hT _ k_40) (fun _ h9 => h9) rfl d_To_isBlunt_8 ?_
  refine W.lcmp hx hb d_To_isBlunt_11 ?_
  refine lv_if_le (tgt := 19) hx hb d_To_isBlunt_12 (by decide) (fun c_12 => ?_) (fun c_12 => ?_)
  · refine lv_iconst (v := 0) hx hb d_To_isBlunt_19 (by decide) ?_
    exact m_zret (v := 0) hx hb hr rfl hm (⟨by rw [if_neg ((lg_le _ _).mp c_12)], rfl⟩) d_To_isBlunt_20 hlocks
  · refine lv_iconst (v := 1) hx hb d_To_isBlunt_15 (by decide) ?_
    refine lv_goto (tgt := 20) hx hb d_To_isBlunt_16 (by decide) ?_
    exact m_zret (v := 1) hx hb hr rfl hm (⟨by rw [if_pos (Classical.not_not.mp (fun q => c_12 ((lg_le _ _).mpr q)))], rfl⟩) d_To_isBlunt_20 hlocks

set_option maxHeartbeats 4000000 in
set_option maxRecDepth 100000 in
theorem c_Or_isDue (l : Launch) (D : va_G) (dA : Nat → ClassId) (ad : Nat → Nat) (G : mG) (sz : Nat) (r : Nat) (so da dn : Int32) (p0 p1 : Int32) (hg : G r = some (.inr (0, [.int so, .int da, .int dn]))) : Met l y_Or_isDue (.code y_Or_isDue b_Or_isDue 3 (some .boolean) :: mBig) ({ frames := 0, cells := 0, slots := 0, locals := 0 }) (mPc [.ref (ad r), .int p0, .int p1] D mCl (mTys dA) mTx ad G sz) (mQi (fun (rv : Int32) (u : mU) => (rv = if dn = 0 ∧ so = p0 ∧ da < p1 then 1 else 0) ∧ u = (ad, G)) D mCl ad G sz) 0 0 (mA ad G sz) := by
  refine Met.ofW (cc := b_Or_isDue) (maxL := 3) (ret := (some .boolean)) (by decide) rfl ?_
  intro p e s m args below meth c s₁ B hml hv
  obtain ⟨rfl, hsz, hw0, hC⟩ := hv
  have hx := B.exec
  have hb := B.bytes
  have hr := B.returns
  have hts := atoms_spec (ws := .code y_Or_isDue b_Or_isDue 3 (some .boolean) :: mBig) B.pre
  have hT : ∀ w ∈ mBig, w.before _ s = true := fun w h => hts w (List.mem_cons_of_mem _ h)
  have hown : s.vm.findClass "EdgeWear$Order" = some m.cls := findClass_of_methodNamed B.named
  have hlocks := B.notSynchronized
  subst hsz
  have hm := mS.start hw0
  have hA : ∀ q : Nat, s.heap.size ≤ q → mA ad G s.heap.size q := fun q h => Or.inr h
  have hl := lv_entry ([.ref (ad r), .int p0, .int p1]) (n := 3) (Nat.le_of_ble_eq_true rfl)
  rw [lg_entry_eq]
  generalize (lg_sl ([.ref (ad r), .int p0, .int p1]) ++ List.replicate (3 - (lg_sl ([.ref (ad r), .int p0, .int p1])).length) Slot.unset).toArray = ls at hl ⊢
  have hl : lv_has ls 3 [(0, .ref (ad r)), (1, .int p0), (2, .int p1)] := hl
  refine lv_aload_n hx hb d_Or_isDue_0 rfl (lv_at hl 0 rfl) ?_
  refine m_get (v := .int dn) (C := R_Or) (T := T_Or) (N := 3) hx hb hT in_Or hown hC.1 hm r rfl hg rfl 2 (by decide) (hT _ k_541) (fun _ h9 => h9) rfl d_Or_isDue_1 ?_
  refine lv_if_ne (tgt := 27) hx hb d_Or_isDue_4 (by decide) (fun c_4 => ?_) (fun c_4 => ?_)
  · refine lv_iconst (v := 0) hx hb d_Or_isDue_27 (by decide) ?_
    exact m_zret (v := 0) hx hb hr rfl hm (⟨by simp_all [Int32.not_le, ← Int32.not_lt], rfl⟩) d_Or_isDue_28 hlocks
  · refine lv_aload_n hx hb d_Or_isDue_7 rfl (lv_at hl 0 rfl) ?_
    refine m_get (v := .int so) (C := R_Or) (T := T_Or) (N := 3) hx hb hT in_Or hown hC.1 hm r rfl hg rfl 0 (by decide) (hT _ k_539) (fun _ h9 => h9) rfl d_Or_isDue_8 ?_
    refine lv_iload_n hx hb d_Or_isDue_11 rfl (lv_at hl 1 rfl) ?_
    refine lv_icmp_ne (tgt := 27) hx hb d_Or_isDue_12 (by decide) (fun c_12 => ?_) (fun c_12 => ?_)
    · refine lv_iconst (v := 0) hx hb d_Or_isDue_27 (by decide) ?_
      exact m_zret (v := 0) hx hb hr rfl hm (⟨by simp_all [Int32.not_le, ← Int32.not_lt], rfl⟩) d_Or_isDue_28 hlocks
    · refine lv_aload_n hx hb d_Or_isDue_15 rfl (lv_at hl 0 rfl) ?_
      refine m_get (v := .int da) (C := R_Or) (T := T_Or) (N := 3) hx hb hT in_Or hown hC.1 hm r rfl hg rfl 1 (by decide) (hT _ k_540) (fun _ h9 => h9) rfl d_Or_isDue_16 ?_
      refine lv_iload_n hx hb d_Or_isDue_19 rfl (lv_at hl 2 rfl) ?_
      refine lv_icmp_ge (tgt := 27) hx hb d_Or_isDue_20 (by decide) (fun c_20 => ?_) (fun c_20 => ?_)
      · refine lv_iconst (v := 0) hx hb d_Or_isDue_27 (by decide) ?_
        exact m_zret (v := 0) hx hb hr rfl hm (⟨by simp_all [Int32.not_le, ← Int32.not_lt], rfl⟩) d_Or_isDue_28 hlocks
      · refine lv_iconst (v := 1) hx hb d_Or_isDue_23 (by decide) ?_
        refine lv_goto (tgt := 28) hx hb d_Or_isDue_24 (by decide) ?_
        exact m_zret (v := 1) hx hb hr rfl hm (⟨by simp_all [Int32.not_le, ← Int32.not_lt], rfl⟩) d_Or_isDue_28 hlocks

set_option maxHeartbeats 4000000 in
set_option maxRecDepth 100000 in
theorem c_To_isSpareOf (l : Launch) (D : va_G) (dA : Nat → ClassId) (ad : Nat → Nat) (G : mG) (sz : Nat) (r rs rr : Nat) (le ln : Int32) (we us gr : Int64) (ba ou : Int32) (rl : Nat) (nu lc : Int32) (lim : Int64) (ch fa : Int32) (p0 : Int32) (hg : G r = some (.inr (4, [.ref (ad rs), .int le, .ref (ad rr), .int ln, .long we, .long us, .long gr, .int ba, .int ou]))) (hs : G rs = some (.inr (3, [.int nu, .ref (ad rl), .int lc, .long lim, .int ch, .int fa]))) : Met l y_To_isSpareOf (.code y_To_isSpareOf b_To_isSpareOf 2 (some .boolean) :: mBig) ({ frames := 0, cells := 0, slots := 0, locals := 0 }) (mPc [.ref (ad r), .int p0] D mCl (mTys dA) mTx ad G sz) (mQi (fun (rv : Int32) (u : mU) => (rv = if nu = p0 ∧ ba = 0 ∧ ou = 0 ∧ we = 0 then 1 else 0) ∧ u = (ad, G)) D mCl ad G sz) 0 0 (mA ad G sz) := by
  refine Met.ofW (cc := b_To_isSpareOf) (maxL := 2) (ret := (some .boolean)) (by decide) rfl ?_
  intro p e s m args below meth c s₁ B hml hv
  obtain ⟨rfl, hsz, hw0, hC⟩ := hv
  have hx := B.exec
  have hb := B.bytes
  have hr := B.returns
  have hts := atoms_spec (ws := .code y_To_isSpareOf b_To_isSpareOf 2 (some .boolean) :: mBig) B.pre
  have hT : ∀ w ∈ mBig, w.before _ s = true := fun w h => hts w (List.mem_cons_of_mem _ h)
  have hown : s.vm.findClass "EdgeWear$Tool" = some m.cls := findClass_of_methodNamed B.named
  have hlocks := B.notSynchronized
  subst hsz
  have hm := mS.start hw0
  have hA : ∀ q : Nat, s.heap.size ≤ q → mA ad G s.heap.size q := fun q h => Or.inr h
  have hl := lv_entry ([.ref (ad r), .int p0]) (n := 2) (Nat.le_of_ble_eq_true rfl)
  rw [lg_entry_eq]
  generalize (lg_sl ([.ref (ad r), .int p0]) ++ List.replicate (2 - (lg_sl ([.ref (ad r), .int p0])).length) Slot.unset).toArray = ls at hl ⊢
  have hl : lv_has ls 2 [(0, .ref (ad r)), (1, .int p0)] := hl
  refine lv_aload_n hx hb d_To_isSpareOf_0 rfl (lv_at hl 0 rfl) ?_
  refine m_get (v := .ref (ad rs)) (C := R_To) (T := T_To) (N := 9) hx hb hT in_To hown hC.1 hm r rfl hg rfl 0 (by decide) (hT _ k_256) (fun _ h9 => h9) rfl d_To_isSpareOf_1 ?_
  refine m_get (v := .int nu) (C := R_So) (T := T_So) (N := 6) hx hb hT in_So hown hC.1 hm rs rfl hs rfl 0 (by decide) (hT _ k_33) (fun _ h9 => h9) rfl d_To_isSpareOf_4 ?_
  refine lv_iload_n hx hb d_To_isSpareOf_7 rfl (lv_at hl 1 rfl) ?_
  refine lv_icmp_ne (tgt := 38) hx hb d_To_isSpareOf_8 (by decide) (fun c_8 => ?_) (fun c_8 => ?_)
  · refine lv_iconst (v := 0) hx hb d_To_isSpareOf_38 (by decide) ?_
    exact m_zret (v := 0) hx hb hr rfl hm (⟨by simp_all [lg_eq], rfl⟩) d_To_isSpareOf_39 hlocks
  · refine lv_aload_n hx hb d_To_isSpareOf_11 rfl (lv_at hl 0 rfl) ?_
    refine m_get (v := .int ba) (C := R_To) (T := T_To) (N := 9) hx hb hT in_To hown hC.1 hm r rfl hg rfl 7 (by decide) (hT _ k_269) (fun _ h9 => h9) rfl d_To_isSpareOf_12 ?_
    refine lv_if_ne (tgt := 38) hx hb d_To_isSpareOf_15 (by decide) (fun c_15 => ?_) (fun c_15 => ?_)
    · refine lv_iconst (v := 0) hx hb d_To_isSpareOf_38 (by decide) ?_
      exact m_zret (v := 0) hx hb hr rfl hm (⟨by simp_all [lg_eq], rfl⟩) d_To_isSpareOf_39 hlocks
    · refine lv_aload_n hx hb d_To_isSpareOf_18 rfl (lv_at hl 0 rfl) ?_
      refine m_get (v := .int ou) (C := R_To) (T := T_To) (N := 9) hx hb hT in_To hown hC.1 hm r rfl hg rfl 8 (by decide) (hT _ k_271) (fun _ h9 => h9) rfl d_To_isSpareOf_19 ?_
      refine lv_if_ne (tgt := 38) hx hb d_To_isSpareOf_22 (by decide) (fun c_22 => ?_) (fun c_22 => ?_)
      · refine lv_iconst (v := 0) hx hb d_To_isSpareOf_38 (by decide) ?_
        exact m_zret (v := 0) hx hb hr rfl hm (⟨by simp_all [lg_eq], rfl⟩) d_To_isSpareOf_39 hlocks
      · refine lv_aload_n hx hb d_To_isSpareOf_25 rfl (lv_at hl 0 rfl) ?_
        refine m_get (v := .long we) (C := R_To) (T := T_To) (N := 9) hx hb hT in_To hown hC.1 hm r rfl hg rfl 4 (by decide) (hT _ k_263) (fun _ h9 => h9) rfl d_To_isSpareOf_26 ?_
        refine lv_lconst (v := 0) hx hb d_To_isSpareOf_29 (by decide) ?_
        refine W.lcmp hx hb d_To_isSpareOf_30 ?_
        refine lv_if_ne (tgt := 38) hx hb d_To_isSpareOf_31 (by decide) (fun c_31 => ?_) (fun c_31 => ?_)
        · refine lv_iconst (v := 0) hx hb d_To_isSpareOf_38 (by decide) ?_
          exact m_zret (v := 0) hx hb hr rfl hm (⟨by simp_all [lg_eq], rfl⟩) d_To_isSpareOf_39 hlocks
        · refine lv_iconst (v := 1) hx hb d_To_isSpareOf_34 (by decide) ?_
          refine lv_goto (tgt := 39) hx hb d_To_isSpareOf_35 (by decide) ?_
          exact m_zret (v := 1) hx hb hr rfl hm (⟨by simp_all [lg_eq], rfl⟩) d_To_isSpareOf_39 hlocks

set_option maxHeartbeats 4000000 in
set_option maxRecDepth 100000 in
theorem c_To_marks (l : Launch) (D : va_G) (dA : Nat → ClassId) (ad : Nat → Nat) (G : mG) (sz : Nat) (r rs rr : Nat) (le ln : Int32) (we us gr : Int64) (ba ou : Int32) (rl : Nat) (nu lc : Int32) (lim : Int64) (ch fa : Int32) (hg : G r = some (.inr (4, [.ref (ad rs), .int le, .ref (ad rr), .int ln, .long we, .long us, .long gr, .int ba, .int ou]))) (hs : G rs = some (.inr (3, [.int nu, .ref (ad rl), .int lc, .long lim, .int ch, .int fa]))) : Met l y_To_marks (.code y_To_marks b_To_marks 1 (some .int) :: mBig) ({ frames := 1, cells := 0, slots := 0, locals := 20 }) (mPc [.ref (ad r)] D mCl (mTys dA) mTx ad G sz) (mQi (fun (rv : Int32) (u : mU) => (rv = (if ba = 0 then 0 else 1) + (if lim < we then 2 else 0) + (if ou = 0 then 0 else 4)) ∧ u = (ad, G)) D mCl ad G sz) 0 0 (mA ad G sz) := by
  refine Met.ofW (cc := b_To_marks) (maxL := 1) (ret := (some .int)) (by decide) rfl ?_
  intro p e s m args below meth c s₁ B hml hv
  obtain ⟨rfl, hsz, hw0, hC⟩ := hv
  have hx := B.exec
  have hb := B.bytes
  have hr := B.returns
  have hts := atoms_spec (ws := .code y_To_marks b_To_marks 1 (some .int) :: mBig) B.pre
  have hT : ∀ w ∈ mBig, w.before _ s = true := fun w h => hts w (List.mem_cons_of_mem _ h)
  have hown : s.vm.findClass "EdgeWear$Tool" = some m.cls := findClass_of_methodNamed B.named
  have hlocks := B.notSynchronized
  subst hsz
  have hm := mS.start hw0
  have hA : ∀ q : Nat, s.heap.size ≤ q → mA ad G s.heap.size q := fun q h => Or.inr h
  have hl := lv_entry ([.ref (ad r)]) (n := 1) (Nat.le_of_ble_eq_true rfl)
  rw [lg_entry_eq]
  generalize (lg_sl ([.ref (ad r)]) ++ List.replicate (1 - (lg_sl ([.ref (ad r)])).length) Slot.unset).toArray = ls at hl ⊢
  have hl : lv_has ls 1 [(0, .ref (ad r))] := hl
  refine lv_aload_n hx hb d_To_marks_0 rfl (lv_at hl 0 rfl) ?_
  refine m_get (v := .int ba) (C := R_To) (T := T_To) (N := 9) hx hb hT in_To hown hC.1 hm r rfl hg rfl 7 (by decide) (hT _ k_269) (fun _ h9 => h9) rfl d_To_marks_1 ?_
  refine lv_if_eq (tgt := 11) hx hb d_To_marks_4 (by decide) (fun c_4 => ?_) (fun c_4 => ?_)
  · refine lv_iconst (v := 0) hx hb d_To_marks_11 (by decide) ?_
    refine lv_aload_n hx hb d_To_marks_12 rfl (lv_at hl 0 rfl) ?_
    refine m_roi (m_runV (As := []) (rest := [.int 0]) ⟨hx, hb, hml, hown, hts⟩ (c_To_isBlunt l D dA ad G s.heap.size r rs rr le ln we us gr ba ou rl nu lc lim ch fa hg hs) (cwV 0 hts (gV k_338 k_362 k_336 k_337 k_11) rfl rfl rfl (by decide +kernel) ⟨Nat.le_of_ble_eq_true rfl, Nat.le_of_ble_eq_true rfl⟩) hm hA hC r rfl hg rfl rfl rfl hl.1 rfl (Nat.le_of_ble_eq_true rfl) d_To_marks_13 ⟨Nat.le_of_ble_eq_true rfl, Nat.le_of_ble_eq_true rfl⟩) hm hA (fun r_1 H locs w_2 hm => ?_)
    refine lv_if_eq (tgt := 23) hx hb d_To_marks_16 (by decide) (fun c_16 => ?_) (fun c_16 => ?_)
    · refine lv_iconst (v := 0) hx hb d_To_marks_23 (by decide) ?_
      refine lv_iadd hx hb d_To_marks_24 ?_
      refine lv_topi (fun x_3 ex_3 => ?_)
      refine lv_aload_n hx hb d_To_marks_25 rfl (lv_at hl 0 rfl) ?_
      refine m_get (v := .int ou) (C := R_To) (T := T_To) (N := 9) hx hb hT in_To hown hC.1 hm r rfl hg rfl 8 (by decide) (hT _ k_271) (fun _ h9 => h9) rfl d_To_marks_26 ?_
      refine lv_if_eq (tgt := 36) hx hb d_To_marks_29 (by decide) (fun c_29 => ?_) (fun c_29 => ?_)
      · refine lv_iconst (v := 0) hx hb d_To_marks_36 (by decide) ?_
        refine lv_iadd hx hb d_To_marks_37 ?_
        refine lv_topi (fun x_4 ex_4 => ?_)
        exact m_iret (v := x_4) hx hb hr hm (⟨by
          have q := w_2
          by_cases hq : lim < we
          · rw [if_pos hq] at q ⊢
            simp_all
          · rw [if_neg hq] at q ⊢
            simp_all, rfl⟩) d_To_marks_38 hlocks
      · refine lv_iconst (v := 4) hx hb d_To_marks_32 (by decide) ?_
        refine lv_goto (tgt := 37) hx hb d_To_marks_33 (by decide) ?_
        refine lv_iadd hx hb d_To_marks_37 ?_
        refine lv_topi (fun x_5 ex_5 => ?_)
        exact m_iret (v := x_5) hx hb hr hm (⟨by
          have q := w_2
          by_cases hq : lim < we
          · rw [if_pos hq] at q ⊢
            simp_all
          · rw [if_neg hq] at q ⊢
            simp_all, rfl⟩) d_To_marks_38 hlocks
    · refine lv_iconst (v := 2) hx hb d_To_marks_19 (by decide) ?_
      refine lv_goto (tgt := 24) hx hb d_To_marks_20 (by decide) ?_
      refine lv_iadd hx hb d_To_marks_24 ?_
      refine lv_topi (fun x_6 ex_6 => ?_)
      refine lv_aload_n hx hb d_To_marks_25 rfl (lv_at hl 0 rfl) ?_
      refine m_get (v := .int ou) (C := R_To) (T := T_To) (N := 9) hx hb hT in_To hown hC.1 hm r rfl hg rfl 8 (by decide) (hT _ k_271) (fun _ h9 => h9) rfl d_To_marks_26 ?_
      refine lv_if_eq (tgt := 36) hx hb d_To_marks_29 (by decide) (fun c_29 => ?_) (fun c_29 => ?_)
      · refine lv_iconst (v := 0) hx hb d_To_marks_36 (by decide) ?_
        refine lv_iadd hx hb d_To_marks_37 ?_
        refine lv_topi (fun x_7 ex_7 => ?_)
        exact m_iret (v := x_7) hx hb hr hm (⟨by
          have q := w_2
          by_cases hq : lim < we
          · rw [if_pos hq] at q ⊢
            simp_all
          · rw [if_neg hq] at q ⊢
            simp_all, rfl⟩) d_To_marks_38 hlocks
      · refine lv_iconst (v := 4) hx hb d_To_marks_32 (by decide) ?_
        refine lv_goto (tgt := 37) hx hb d_To_marks_33 (by decide) ?_
        refine lv_iadd hx hb d_To_marks_37 ?_
        refine lv_topi (fun x_8 ex_8 => ?_)
        exact m_iret (v := x_8) hx hb hr hm (⟨by
          have q := w_2
          by_cases hq : lim < we
          · rw [if_pos hq] at q ⊢
            simp_all
          · rw [if_neg hq] at q ⊢
            simp_all, rfl⟩) d_To_marks_38 hlocks
  · refine lv_iconst (v := 1) hx hb d_To_marks_7 (by decide) ?_
    refine lv_goto (tgt := 12) hx hb d_To_marks_8 (by decide) ?_
    refine lv_aload_n hx hb d_To_marks_12 rfl (lv_at hl 0 rfl) ?_
    refine m_roi (m_runV (As := []) (rest := [.int 1]) ⟨hx, hb, hml, hown, hts⟩ (c_To_isBlunt l D dA ad G s.heap.size r rs rr le ln we us gr ba ou rl nu lc lim ch fa hg hs) (cwV 0 hts (gV k_338 k_362 k_336 k_337 k_11) rfl rfl rfl (by decide +kernel) ⟨Nat.le_of_ble_eq_true rfl, Nat.le_of_ble_eq_true rfl⟩) hm hA hC r rfl hg rfl rfl rfl hl.1 rfl (Nat.le_of_ble_eq_true rfl) d_To_marks_13 ⟨Nat.le_of_ble_eq_true rfl, Nat.le_of_ble_eq_true rfl⟩) hm hA (fun r_9 H locs w_10 hm => ?_)
    refine lv_if_eq (tgt := 23) hx hb d_To_marks_16 (by decide) (fun c_16 => ?_) (fun c_16 => ?_)
    · refine lv_iconst (v := 0) hx hb d_To_marks_23 (by decide) ?_
      refine lv_iadd hx hb d_To_marks_24 ?_
      refine lv_topi (fun x_11 ex_11 => ?_)
      refine lv_aload_n hx hb d_To_marks_25 rfl (lv_at hl 0 rfl) ?_
      refine m_get (v := .int ou) (C := R_To) (T := T_To) (N := 9) hx hb hT in_To hown hC.1 hm r rfl hg rfl 8 (by decide) (hT _ k_271) (fun _ h9 => h9) rfl d_To_marks_26 ?_
      refine lv_if_eq (tgt := 36) hx hb d_To_marks_29 (by decide) (fun c_29 => ?_) (fun c_29 => ?_)
      · refine lv_iconst (v := 0) hx hb d_To_marks_36 (by decide) ?_
        refine lv_iadd hx hb d_To_marks_37 ?_
        refine lv_topi (fun x_12 ex_12 => ?_)
        exact m_iret (v := x_12) hx hb hr hm (⟨by
          have q := w_10
          by_cases hq : lim < we
          · rw [if_pos hq] at q ⊢
            simp_all
          · rw [if_neg hq] at q ⊢
            simp_all, rfl⟩) d_To_marks_38 hlocks
      · refine lv_iconst (v := 4) hx hb d_To_marks_32 (by decide) ?_
        refine lv_goto (tgt := 37) hx hb d_To_marks_33 (by decide) ?_
        refine lv_iadd hx hb d_To_marks_37 ?_
        refine lv_topi (fun x_13 ex_13 => ?_)
        exact m_iret (v := x_13) hx hb hr hm (⟨by
          have q := w_10
          by_cases hq : lim < we
          · rw [if_pos hq] at q ⊢
            simp_all
          · rw [if_neg hq] at q ⊢
            simp_all, rfl⟩) d_To_marks_38 hlocks
    · refine lv_iconst (v := 2) hx hb d_To_marks_19 (by decide) ?_
      refine lv_goto (tgt := 24) hx hb d_To_marks_20 (by decide) ?_
      refine lv_iadd hx hb d_To_marks_24 ?_
      refine lv_topi (fun x_14 ex_14 => ?_)
      refine lv_aload_n hx hb d_To_marks_25 rfl (lv_at hl 0 rfl) ?_
      refine m_get (v := .int ou) (C := R_To) (T := T_To) (N := 9) hx hb hT in_To hown hC.1 hm r rfl hg rfl 8 (by decide) (hT _ k_271) (fun _ h9 => h9) rfl d_To_marks_26 ?_
      refine lv_if_eq (tgt := 36) hx hb d_To_marks_29 (by decide) (fun c_29 => ?_) (fun c_29 => ?_)
      · refine lv_iconst (v := 0) hx hb d_To_marks_36 (by decide) ?_
        refine lv_iadd hx hb d_To_marks_37 ?_
        refine lv_topi (fun x_15 ex_15 => ?_)
        exact m_iret (v := x_15) hx hb hr hm (⟨by
          have q := w_10
          by_cases hq : lim < we
          · rw [if_pos hq] at q ⊢
            simp_all
          · rw [if_neg hq] at q ⊢
            simp_all, rfl⟩) d_To_marks_38 hlocks
      · refine lv_iconst (v := 4) hx hb d_To_marks_32 (by decide) ?_
        refine lv_goto (tgt := 37) hx hb d_To_marks_33 (by decide) ?_
        refine lv_iadd hx hb d_To_marks_37 ?_
        refine lv_topi (fun x_16 ex_16 => ?_)
        exact m_iret (v := x_16) hx hb hr hm (⟨by
          have q := w_10
          by_cases hq : lim < we
          · rw [if_pos hq] at q ⊢
            simp_all
          · rw [if_neg hq] at q ⊢
            simp_all, rfl⟩) d_To_marks_38 hlocks

set_option maxHeartbeats 4000000 in
set_option maxRecDepth 100000 in
theorem c_To_wearBy (l : Launch) (D : va_G) (dA : Nat → ClassId) (ad : Nat → Nat) (G : mG) (sz : Nat) (r rs rr : Nat) (le ln : Int32) (we us gr : Int64) (ba ou : Int32) (p0 : Int64) (hg : G r = some (.inr (4, [.ref (ad rs), .int le, .ref (ad rr), .int ln, .long we, .long us, .long gr, .int ba, .int ou]))) : Met l y_To_wearBy (.code y_To_wearBy b_To_wearBy 3 none :: mBig) ({ frames := 1, cells := 0, slots := 0, locals := 16 }) (mPc [.ref (ad r), .long p0] D mCl (mTys dA) mTx ad G sz) (mQv (fun (u : mU) => (u = (ad, va_up G r (some (.inr (4, [.ref (ad rs), .int le, .ref (ad rr), .int ln, .long (if 1000000000000000 < we + p0 then 1000000000000000 else we + p0), .long (us + 1), .long gr, .int ba, .int ou])))))) D mCl ad G sz) 0 0 (mA ad G sz) := by
  refine Met.ofW (cc := b_To_wearBy) (maxL := 3) (ret := none) (by decide) rfl ?_
  intro p e s m args below meth c s₁ B hml hv
  obtain ⟨rfl, hsz, hw0, hC⟩ := hv
  have hx := B.exec
  have hb := B.bytes
  have hr := B.returns
  have hts := atoms_spec (ws := .code y_To_wearBy b_To_wearBy 3 none :: mBig) B.pre
  have hT : ∀ w ∈ mBig, w.before _ s = true := fun w h => hts w (List.mem_cons_of_mem _ h)
  have hown : s.vm.findClass "EdgeWear$Tool" = some m.cls := findClass_of_methodNamed B.named
  have hlocks := B.notSynchronized
  subst hsz
  have hm := mS.start hw0
  have hA : ∀ q : Nat, s.heap.size ≤ q → mA ad G s.heap.size q := fun q h => Or.inr h
  have hl := lv_entry ([.ref (ad r), .long p0]) (n := 3) (Nat.le_of_ble_eq_true rfl)
  rw [lg_entry_eq]
  generalize (lg_sl ([.ref (ad r), .long p0]) ++ List.replicate (3 - (lg_sl ([.ref (ad r), .long p0])).length) Slot.unset).toArray = ls at hl ⊢
  have hl : lv_has ls 3 [(0, .ref (ad r)), (1, .long p0)] := hl
  refine lv_aload_n hx hb d_To_wearBy_0 rfl (lv_at hl 0 rfl) ?_
  refine lv_aload_n hx hb d_To_wearBy_1 rfl (lv_at hl 0 rfl) ?_
  refine m_get (v := .long we) (C := R_To) (T := T_To) (N := 9) hx hb hT in_To hown hC.1 hm r rfl hg rfl 4 (by decide) (hT _ k_263) (fun _ h9 => h9) rfl d_To_wearBy_2 ?_
  refine lv_lload_n hx hb d_To_wearBy_5 rfl (lv_at hl 1 rfl) ?_
  refine lv_ladd hx hb d_To_wearBy_6 ?_
  refine lv_topl (fun x_1 ex_1 => ?_)
  refine lv_ldc2 (v := 1000000000000000) hx hb hown (hT _ k_331) d_To_wearBy_7 ?_
  refine va_mmin_long hx hb (by rw [hml]; exact hl.1.symm) hown (hT _ k_332) (hT _ k_333) (hT _ k_13) (hT _ k_334) (Nat.le_of_ble_eq_true rfl) (Nat.le_of_ble_eq_true rfl) (Nat.zero_le _) (Nat.zero_le _) d_To_wearBy_10 ?_
  refine lv_topl (fun x_2 ex_2 => ?_)
  refine m_put (v := .long x_2) (ty := .long) (C := R_To) (T := T_To) (N := 9) hx hb hT in_To t_To tok_To nm_To hown hC.1 hm r rfl hg rfl 4 (by decide) (hT _ k_263) (fun _ h9 => h9) rfl (by decide +kernel) rfl rfl (Nat.le_of_ble_eq_true rfl) d_To_wearBy_13 (fun H locs hm => ?_)
  obtain ⟨G_3, eG_3⟩ : ∃ z : mG, z = va_up G r (some (.inr (4, [.ref (ad rs), .int le, .ref (ad rr), .int ln, .long x_2, .long us, .long gr, .int ba, .int ou]))) := ⟨_, rfl⟩
  have hm : mS D mCl (mA ad G s.heap.size) s.heap ad G_3 H locs := by rw [eG_3]; exact hm
  have g_4 : G_3 r = some (.inr (4, [.ref (ad rs), .int le, .ref (ad rr), .int ln, .long x_2, .long us, .long gr, .int ba, .int ou])) := by rw [eG_3, va_up_self]
  refine lv_aload_n hx hb d_To_wearBy_16 rfl (lv_at hl 0 rfl) ?_
  refine lv_dup hx hb d_To_wearBy_17 rfl ?_
  refine m_get (v := .long us) (C := R_To) (T := T_To) (N := 9) hx hb hT in_To hown hC.1 hm r rfl g_4 rfl 5 (by decide) (hT _ k_265) (fun _ h9 => h9) rfl d_To_wearBy_18 ?_
  refine lv_lconst (v := 1) hx hb d_To_wearBy_21 (by decide) ?_
  refine lv_ladd hx hb d_To_wearBy_22 ?_
  refine lv_topl (fun x_5 ex_5 => ?_)
  refine m_put (v := .long x_5) (ty := .long) (C := R_To) (T := T_To) (N := 9) hx hb hT in_To t_To tok_To nm_To hown hC.1 hm r rfl g_4 rfl 5 (by decide) (hT _ k_265) (fun _ h9 => h9) rfl (by decide +kernel) rfl rfl (Nat.le_of_ble_eq_true rfl) d_To_wearBy_23 (fun H locs hm => ?_)
  obtain ⟨G_6, eG_6⟩ : ∃ z : mG, z = va_up G_3 r (some (.inr (4, [.ref (ad rs), .int le, .ref (ad rr), .int ln, .long x_2, .long x_5, .long gr, .int ba, .int ou]))) := ⟨_, rfl⟩
  have hm : mS D mCl (mA ad G s.heap.size) s.heap ad G_6 H locs := by rw [eG_6]; exact hm
  have g_7 : G_6 r = some (.inr (4, [.ref (ad rs), .int le, .ref (ad rr), .int ln, .long x_2, .long x_5, .long gr, .int ba, .int ou])) := by rw [eG_6, va_up_self]
  exact m_vret hx hb hr hm (by simp only [eG_6, ex_5, eG_3, ex_2, ex_1, bx_uu]) d_To_wearBy_26 hlocks

set_option maxHeartbeats 4000000 in
set_option maxRecDepth 100000 in
theorem c_To_grindOrBar (l : Launch) (D : va_G) (dA : Nat → ClassId) (ad : Nat → Nat) (G : mG) (sz : Nat) (r rs rr : Nat) (le ln : Int32) (we us gr : Int64) (ba ou : Int32) (p0 : Int32) (hg : G r = some (.inr (4, [.ref (ad rs), .int le, .ref (ad rr), .int ln, .long we, .long us, .long gr, .int ba, .int ou]))) : Met l y_To_grindOrBar (.code y_To_grindOrBar b_To_grindOrBar 2 (some .boolean) :: mBig) ({ frames := 0, cells := 0, slots := 0, locals := 0 }) (mPc [.ref (ad r), .int p0] D mCl (mTys dA) mTx ad G sz) (mQi (fun (rv : Int32) (u : mU) => (if ln - p0 < le then rv = 0 ∧ u = (ad, va_up G r (some (.inr (4, [.ref (ad rs), .int le, .ref (ad rr), .int ln, .long we, .long us, .long gr, .int 1, .int ou])))) else rv = 1 ∧ u = (ad, va_up G r (some (.inr (4, [.ref (ad rs), .int le, .ref (ad rr), .int (ln - p0), .long 0, .long us, .long (gr + 1), .int ba, .int ou])))))) D mCl ad G sz) 0 0 (mA ad G sz) := by
  refine Met.ofW (cc := b_To_grindOrBar) (maxL := 2) (ret := (some .boolean)) (by decide) rfl ?_
  intro p e s m args below meth c s₁ B hml hv
  obtain ⟨rfl, hsz, hw0, hC⟩ := hv
  have hx := B.exec
  have hb := B.bytes
  have hr := B.returns
  have hts := atoms_spec (ws := .code y_To_grindOrBar b_To_grindOrBar 2 (some .boolean) :: mBig) B.pre
  have hT : ∀ w ∈ mBig, w.before _ s = true := fun w h => hts w (List.mem_cons_of_mem _ h)
  have hown : s.vm.findClass "EdgeWear$Tool" = some m.cls := findClass_of_methodNamed B.named
  have hlocks := B.notSynchronized
  subst hsz
  have hm := mS.start hw0
  have hA : ∀ q : Nat, s.heap.size ≤ q → mA ad G s.heap.size q := fun q h => Or.inr h
  have hl := lv_entry ([.ref (ad r), .int p0]) (n := 2) (Nat.le_of_ble_eq_true rfl)
  rw [lg_entry_eq]
  generalize (lg_sl ([.ref (ad r), .int p0]) ++ List.replicate (2 - (lg_sl ([.ref (ad r), .int p0])).length) Slot.unset).toArray = ls at hl ⊢
  have hl : lv_has ls 2 [(0, .ref (ad r)), (1, .int p0)] := hl
  refine lv_aload_n hx hb d_To_grindOrBar_0 rfl (lv_at hl 0 rfl) ?_
  refine m_get (v := .int ln) (C := R_To) (T := T_To) (N := 9) hx hb hT in_To hown hC.1 hm r rfl hg rfl 3 (by decide) (hT _ k_261) (fun _ h9 => h9) rfl d_To_grindOrBar_1 ?_
  refine lv_iload_n hx hb d_To_grindOrBar_4 rfl (lv_at hl 1 rfl) ?_
  refine lv_isub hx hb d_To_grindOrBar_5 ?_
  refine lv_topi (fun x_1 ex_1 => ?_)
  refine lv_aload_n hx hb d_To_grindOrBar_6 rfl (lv_at hl 0 rfl) ?_
  refine m_get (v := .int le) (C := R_To) (T := T_To) (N := 9) hx hb hT in_To hown hC.1 hm r rfl hg rfl 1 (by decide) (hT _ k_258) (fun _ h9 => h9) rfl d_To_grindOrBar_7 ?_
  refine lv_icmp_ge (tgt := 20) hx hb d_To_grindOrBar_10 (by decide) (fun c_10 => ?_) (fun c_10 => ?_)
  · refine lv_aload_n hx hb d_To_grindOrBar_20 rfl (lv_at hl 0 rfl) ?_
    refine lv_dup hx hb d_To_grindOrBar_21 rfl ?_
    refine m_get (v := .int ln) (C := R_To) (T := T_To) (N := 9) hx hb hT in_To hown hC.1 hm r rfl hg rfl 3 (by decide) (hT _ k_261) (fun _ h9 => h9) rfl d_To_grindOrBar_22 ?_
    refine lv_iload_n hx hb d_To_grindOrBar_25 rfl (lv_at hl 1 rfl) ?_
    refine lv_isub hx hb d_To_grindOrBar_26 ?_
    refine lv_topi (fun x_2 ex_2 => ?_)
    refine m_put (v := .int x_2) (ty := .int) (C := R_To) (T := T_To) (N := 9) hx hb hT in_To t_To tok_To nm_To hown hC.1 hm r rfl hg rfl 3 (by decide) (hT _ k_261) (fun _ h9 => h9) rfl (by decide +kernel) rfl rfl (Nat.le_of_ble_eq_true rfl) d_To_grindOrBar_27 (fun H locs hm => ?_)
    obtain ⟨G_3, eG_3⟩ : ∃ z : mG, z = va_up G r (some (.inr (4, [.ref (ad rs), .int le, .ref (ad rr), .int x_2, .long we, .long us, .long gr, .int ba, .int ou]))) := ⟨_, rfl⟩
    have hm : mS D mCl (mA ad G s.heap.size) s.heap ad G_3 H locs := by rw [eG_3]; exact hm
    have g_4 : G_3 r = some (.inr (4, [.ref (ad rs), .int le, .ref (ad rr), .int x_2, .long we, .long us, .long gr, .int ba, .int ou])) := by rw [eG_3, va_up_self]
    refine lv_aload_n hx hb d_To_grindOrBar_30 rfl (lv_at hl 0 rfl) ?_
    refine lv_lconst (v := 0) hx hb d_To_grindOrBar_31 (by decide) ?_
    refine m_put (v := .long 0) (ty := .long) (C := R_To) (T := T_To) (N := 9) hx hb hT in_To t_To tok_To nm_To hown hC.1 hm r rfl g_4 rfl 4 (by decide) (hT _ k_263) (fun _ h9 => h9) rfl (by decide +kernel) rfl rfl (Nat.le_of_ble_eq_true rfl) d_To_grindOrBar_32 (fun H locs hm => ?_)
    obtain ⟨G_5, eG_5⟩ : ∃ z : mG, z = va_up G_3 r (some (.inr (4, [.ref (ad rs), .int le, .ref (ad rr), .int x_2, .long 0, .long us, .long gr, .int ba, .int ou]))) := ⟨_, rfl⟩
    have hm : mS D mCl (mA ad G s.heap.size) s.heap ad G_5 H locs := by rw [eG_5]; exact hm
    have g_6 : G_5 r = some (.inr (4, [.ref (ad rs), .int le, .ref (ad rr), .int x_2, .long 0, .long us, .long gr, .int ba, .int ou])) := by rw [eG_5, va_up_self]
    refine lv_aload_n hx hb d_To_grindOrBar_35 rfl (lv_at hl 0 rfl) ?_
    refine lv_dup hx hb d_To_grindOrBar_36 rfl ?_
    refine m_get (v := .long gr) (C := R_To) (T := T_To) (N := 9) hx hb hT in_To hown hC.1 hm r rfl g_6 rfl 6 (by decide) (hT _ k_267) (fun _ h9 => h9) rfl d_To_grindOrBar_37 ?_
    refine lv_lconst (v := 1) hx hb d_To_grindOrBar_40 (by decide) ?_
    refine lv_ladd hx hb d_To_grindOrBar_41 ?_
    refine lv_topl (fun x_7 ex_7 => ?_)
    refine m_put (v := .long x_7) (ty := .long) (C := R_To) (T := T_To) (N := 9) hx hb hT in_To t_To tok_To nm_To hown hC.1 hm r rfl g_6 rfl 6 (by decide) (hT _ k_267) (fun _ h9 => h9) rfl (by decide +kernel) rfl rfl (Nat.le_of_ble_eq_true rfl) d_To_grindOrBar_42 (fun H locs hm => ?_)
    obtain ⟨G_8, eG_8⟩ : ∃ z : mG, z = va_up G_5 r (some (.inr (4, [.ref (ad rs), .int le, .ref (ad rr), .int x_2, .long 0, .long us, .long x_7, .int ba, .int ou]))) := ⟨_, rfl⟩
    have hm : mS D mCl (mA ad G s.heap.size) s.heap ad G_8 H locs := by rw [eG_8]; exact hm
    have g_9 : G_8 r = some (.inr (4, [.ref (ad rs), .int le, .ref (ad rr), .int x_2, .long 0, .long us, .long x_7, .int ba, .int ou])) := by rw [eG_8, va_up_self]
    refine lv_iconst (v := 1) hx hb d_To_grindOrBar_45 (by decide) ?_
    exact m_zret (v := 1) hx hb hr rfl hm (by rw [if_neg (by rw [← ex_1]; exact Int32.not_lt.mpr c_10)]; exact ⟨rfl, by simp only [eG_8, ex_7, eG_5, eG_3, ex_2, ex_1, bx_uu]⟩) d_To_grindOrBar_46 hlocks
  · refine lv_aload_n hx hb d_To_grindOrBar_13 rfl (lv_at hl 0 rfl) ?_
    refine lv_iconst (v := 1) hx hb d_To_grindOrBar_14 (by decide) ?_
    refine m_put (v := .int 1) (ty := .boolean) (C := R_To) (T := T_To) (N := 9) hx hb hT in_To t_To tok_To nm_To hown hC.1 hm r rfl hg rfl 7 (by decide) (hT _ k_269) (fun _ h9 => h9) rfl (by decide +kernel) rfl rfl (Nat.le_of_ble_eq_true rfl) d_To_grindOrBar_15 (fun H locs hm => ?_)
    obtain ⟨G_10, eG_10⟩ : ∃ z : mG, z = va_up G r (some (.inr (4, [.ref (ad rs), .int le, .ref (ad rr), .int ln, .long we, .long us, .long gr, .int 1, .int ou]))) := ⟨_, rfl⟩
    have hm : mS D mCl (mA ad G s.heap.size) s.heap ad G_10 H locs := by rw [eG_10]; exact hm
    have g_11 : G_10 r = some (.inr (4, [.ref (ad rs), .int le, .ref (ad rr), .int ln, .long we, .long us, .long gr, .int 1, .int ou])) := by rw [eG_10, va_up_self]
    refine lv_iconst (v := 0) hx hb d_To_grindOrBar_18 (by decide) ?_
    exact m_zret (v := 0) hx hb hr rfl hm (by rw [if_pos (by rw [← ex_1]; exact Int32.not_le.mp c_10)]; exact ⟨rfl, by simp only [eG_10, ex_1, bx_uu]⟩) d_To_grindOrBar_19 hlocks
