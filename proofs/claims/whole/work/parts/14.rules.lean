set_option maxHeartbeats 4000000 in
set_option maxRecDepth 100000 in
theorem c_Rd_add (l : Launch) (D : va_G) (dA : Nat → ClassId) (ad : Nat → Nat) (G : mG) (sz : Nat) (r rl : Nat) (cn lm : Int32) (f : Nat → Int32) (p0 p1 : Int32) (hne : r ≠ rl) (hg : G r = some (.inr (1, [.ref (ad rl), .int cn, .int lm]))) (ha : G rl = some (.inl (dA 0, 24, .inl f))) : Met l y_Rd_add (.code y_Rd_add b_Rd_add 3 none :: mBig) ({ frames := 1, cells := 0, slots := 0, locals := 60 }) (mPc [.ref (ad r), .int p0, .int p1] D mCl (mTys dA) mTx ad G sz) (mQv (fun (u : mU) => (u = (ad, va_up (va_up G rl (some (.inl (dA 0, 24, .inl (upd (va_cpy f f 0 1 23) 0 p1))))) r (some (.inr (1, [.ref (ad rl), .int (if 24 < cn + 1 then 24 else cn + 1), .int p0])))))) D mCl ad G sz) 0 0 (mA ad G sz) := by
  refine Met.ofW (cc := b_Rd_add) (maxL := 3) (ret := none) (by decide) rfl ?_
  intro p e s m args below meth c s₁ B hml hv
  obtain ⟨rfl, hsz, hw0, hC⟩ := hv
  have hx := B.exec
  have hb := B.bytes
  have hr := B.returns
  have hts := atoms_spec (ws := .code y_Rd_add b_Rd_add 3 none :: mBig) B.pre
  have hT : ∀ w ∈ mBig, w.before _ s = true := fun w h => hts w (List.mem_cons_of_mem _ h)
  have hown : s.vm.findClass "EdgeWear$Readings" = some m.cls := findClass_of_methodNamed B.named
  have hlocks := B.notSynchronized
  subst hsz
  have hm := mS.start hw0
  have hA : ∀ q : Nat, s.heap.size ≤ q → mA ad G s.heap.size q := fun q h => Or.inr h
  have hl := lv_entry ([.ref (ad r), .int p0, .int p1]) (n := 3) (Nat.le_of_ble_eq_true rfl)
  rw [lg_entry_eq]
  generalize (lg_sl ([.ref (ad r), .int p0, .int p1]) ++ List.replicate (3 - (lg_sl ([.ref (ad r), .int p0, .int p1])).length) Slot.unset).toArray = ls at hl ⊢
  have hl : lv_has ls 3 [(0, .ref (ad r)), (1, .int p0), (2, .int p1)] := hl
  refine lv_aload_n hx hb d_Rd_add_0 rfl (lv_at hl 0 rfl) ?_
  refine m_get (v := .ref (ad rl)) (C := R_Rd) (T := T_Rd) (N := 3) hx hb hT in_Rd hown hC.1 hm r rfl hg rfl 0 (by decide) (hT _ k_245) (fun _ h9 => h9) rfl d_Rd_add_1 ?_
  refine lv_iconst (v := 0) hx hb d_Rd_add_4 (by decide) ?_
  refine lv_aload_n hx hb d_Rd_add_5 rfl (lv_at hl 0 rfl) ?_
  refine m_get (v := .ref (ad rl)) (C := R_Rd) (T := T_Rd) (N := 3) hx hb hT in_Rd hown hC.1 hm r rfl hg rfl 0 (by decide) (hT _ k_245) (fun _ h9 => h9) rfl d_Rd_add_6 ?_
  refine lv_iconst (v := 1) hx hb d_Rd_add_9 (by decide) ?_
  refine lv_bipush (v := 23) hx hb d_Rd_add_10 (by decide) ?_
  refine m_copy0 hx hb (by rw [hml]; exact hl.1.symm) hown (hT _ k_495) (hT _ k_497) (hT _ k_496) (hT _ k_14) hC.1 hm rl rfl 0 ha rfl (by decide) (by decide) (by decide) (by decide) (by decide) (Nat.le_of_ble_eq_true rfl) (Nat.le_of_ble_eq_true rfl) d_Rd_add_12 (fun H locs hm => ?_)
  obtain ⟨G_1, eG_1⟩ : ∃ z : mG, z = va_up G rl (some (.inl (dA 0, 24, .inl (va_cpy f f 0 1 23)))) := ⟨_, rfl⟩
  have hm : mS D mCl (mA ad G s.heap.size) s.heap ad G_1 H locs := by rw [eG_1]; exact hm
  have g_2 := (congrFun eG_1 r).trans ((va_up_ne _ _ (hne)).trans hg)
  have g_3 : G_1 rl = some (.inl (dA 0, 24, .inl (va_cpy f f 0 1 23))) := by rw [eG_1, va_up_self]
  refine lv_aload_n hx hb d_Rd_add_15 rfl (lv_at hl 0 rfl) ?_
  refine m_get (v := .ref (ad rl)) (C := R_Rd) (T := T_Rd) (N := 3) hx hb hT in_Rd hown hC.1 hm r rfl g_2 rfl 0 (by decide) (hT _ k_245) (fun _ h9 => h9) rfl d_Rd_add_16 ?_
  refine lv_iconst (v := 0) hx hb d_Rd_add_19 (by decide) ?_
  refine lv_iload_n hx hb d_Rd_add_20 rfl (lv_at hl 2 rfl) ?_
  refine m_iast hx hb hC.1 hm rl rfl 0 g_3 rfl (vpc _ _ (by decide)) d_Rd_add_21 (fun H locs hm => ?_)
  obtain ⟨G_4, eG_4⟩ : ∃ z : mG, z = va_up G_1 rl (some (.inl ((dA 0), 24, .inl (upd (va_cpy f f 0 1 23) 0 p1)))) := ⟨_, rfl⟩
  have hm : mS D mCl (mA ad G s.heap.size) s.heap ad G_4 H locs := by rw [eG_4]; exact hm
  have g_5 := (congrFun eG_4 r).trans ((va_up_ne _ _ (hne)).trans g_2)
  have g_6 : G_4 rl = some (.inl ((dA 0), 24, .inl (upd (va_cpy f f 0 1 23) 0 p1))) := by rw [eG_4, va_up_self]
  refine lv_aload_n hx hb d_Rd_add_22 rfl (lv_at hl 0 rfl) ?_
  refine lv_aload_n hx hb d_Rd_add_23 rfl (lv_at hl 0 rfl) ?_
  refine m_get (v := .int cn) (C := R_Rd) (T := T_Rd) (N := 3) hx hb hT in_Rd hown hC.1 hm r rfl g_5 rfl 1 (by decide) (hT _ k_246) (fun _ h9 => h9) rfl d_Rd_add_24 ?_
  refine lv_iconst (v := 1) hx hb d_Rd_add_27 (by decide) ?_
  refine lv_iadd hx hb d_Rd_add_28 ?_
  refine lv_topi (fun x_7 ex_7 => ?_)
  refine lv_bipush (v := 24) hx hb d_Rd_add_29 (by decide) ?_
  refine va_mmin hx hb (by rw [hml]; exact hl.1.symm) hown (hT _ k_498) (hT _ k_436) (hT _ k_13) (hT _ k_437) (Nat.le_of_ble_eq_true rfl) (Nat.le_of_ble_eq_true rfl) (Nat.zero_le _) (Nat.zero_le _) d_Rd_add_31 ?_
  refine lv_topi (fun x_8 ex_8 => ?_)
  refine m_put (v := .int x_8) (ty := .int) (C := R_Rd) (T := T_Rd) (N := 3) hx hb hT in_Rd t_Rd tok_Rd nm_Rd hown hC.1 hm r rfl g_5 rfl 1 (by decide) (hT _ k_246) (fun _ h9 => h9) rfl (by decide +kernel) rfl rfl (Nat.le_of_ble_eq_true rfl) d_Rd_add_34 (fun H locs hm => ?_)
  obtain ⟨G_9, eG_9⟩ : ∃ z : mG, z = va_up G_4 r (some (.inr (1, [.ref (ad rl), .int x_8, .int lm]))) := ⟨_, rfl⟩
  have hm : mS D mCl (mA ad G s.heap.size) s.heap ad G_9 H locs := by rw [eG_9]; exact hm
  have g_10 : G_9 r = some (.inr (1, [.ref (ad rl), .int x_8, .int lm])) := by rw [eG_9, va_up_self]
  have g_11 := (congrFun eG_9 rl).trans ((va_up_ne _ _ (Ne.symm hne)).trans g_6)
  refine lv_aload_n hx hb d_Rd_add_37 rfl (lv_at hl 0 rfl) ?_
  refine lv_iload_n hx hb d_Rd_add_38 rfl (lv_at hl 1 rfl) ?_
  refine m_put (v := .int p0) (ty := .int) (C := R_Rd) (T := T_Rd) (N := 3) hx hb hT in_Rd t_Rd tok_Rd nm_Rd hown hC.1 hm r rfl g_10 rfl 2 (by decide) (hT _ k_247) (fun _ h9 => h9) rfl (by decide +kernel) rfl rfl (Nat.le_of_ble_eq_true rfl) d_Rd_add_39 (fun H locs hm => ?_)
  obtain ⟨G_12, eG_12⟩ : ∃ z : mG, z = va_up G_9 r (some (.inr (1, [.ref (ad rl), .int x_8, .int p0]))) := ⟨_, rfl⟩
  have hm : mS D mCl (mA ad G s.heap.size) s.heap ad G_12 H locs := by rw [eG_12]; exact hm
  have g_13 : G_12 r = some (.inr (1, [.ref (ad rl), .int x_8, .int p0])) := by rw [eG_12, va_up_self]
  have g_14 := (congrFun eG_12 rl).trans ((va_up_ne _ _ (Ne.symm hne)).trans g_11)
  exact m_vret hx hb hr hm (by simp only [eG_12, eG_9, ex_8, ex_7, eG_4, eG_1, bx_uu]) d_Rd_add_42 hlocks

set_option maxHeartbeats 4000000 in
set_option maxRecDepth 100000 in
theorem c_Ru_firstThatTells (l : Launch) (D : va_G) (dA : Nat → ClassId) (ad : Nat → Nat) (G : mG) (sz : Nat) (r : Nat) (hi ru mi ju : Int32) (r2 rl : Nat) (cn lm : Int32) (f : Nat → Int32) (k : Nat) (hk : ru = nI k) (hk1 : 1 ≤ k) (hk2 : k ≤ 24) (hg : G r = some (.inr (2, [.int hi, .int ru, .int mi, .int ju]))) (hg2 : G r2 = some (.inr (1, [.ref (ad rl), .int cn, .int lm]))) (ha : G rl = some (.inl (dA 0, 24, .inl f))) : Met l y_Ru_firstThatTells (.code y_Ru_firstThatTells b_Ru_firstThatTells 2 (some .int) :: mBig) ({ frames := 3, cells := 0, slots := 0, locals := 57 }) (mPc [.ref (ad r), .ref (ad r2)] D mCl (mTys dA) mTx ad G sz) (mQi (fun (rv : Int32) (u : mU) => (eFire rv (hi < f 0) (nI k ≤ cn ∧ ∀ i, i + 1 < k → f (i + 1) < f i) (nI k ≤ cn ∧ ∀ i, i < k → mi < f i) (3 ≤ cn ∧ ju < (if 0 ≤ f 0 - f 1 then f 0 - f 1 else 0 - (f 0 - f 1)) + (if 0 ≤ f 1 - f 2 then f 1 - f 2 else 0 - (f 1 - f 2)))) ∧ u = (ad, G)) D mCl ad G sz) 0 0 (mA ad G sz) := by
  refine Met.ofW (cc := b_Ru_firstThatTells) (maxL := 2) (ret := (some .int)) (by decide) rfl ?_
  intro p e s m args below meth c s₁ B hml hv
  obtain ⟨rfl, hsz, hw0, hC⟩ := hv
  have hx := B.exec
  have hb := B.bytes
  have hr := B.returns
  have hts := atoms_spec (ws := .code y_Ru_firstThatTells b_Ru_firstThatTells 2 (some .int) :: mBig) B.pre
  have hT : ∀ w ∈ mBig, w.before _ s = true := fun w h => hts w (List.mem_cons_of_mem _ h)
  have hown : s.vm.findClass "EdgeWear$Rules" = some m.cls := findClass_of_methodNamed B.named
  have hlocks := B.notSynchronized
  subst hsz
  have hm := mS.start hw0
  have hA : ∀ q : Nat, s.heap.size ≤ q → mA ad G s.heap.size q := fun q h => Or.inr h
  have hl := lv_entry ([.ref (ad r), .ref (ad r2)]) (n := 2) (Nat.le_of_ble_eq_true rfl)
  rw [lg_entry_eq]
  generalize (lg_sl ([.ref (ad r), .ref (ad r2)]) ++ List.replicate (2 - (lg_sl ([.ref (ad r), .ref (ad r2)])).length) Slot.unset).toArray = ls at hl ⊢
  have hl : lv_has ls 2 [(0, .ref (ad r)), (1, .ref (ad r2))] := hl
  refine lv_aload_n hx hb d_Ru_firstThatTells_0 rfl (lv_at hl 1 rfl) ?_
  refine lv_aload_n hx hb d_Ru_firstThatTells_1 rfl (lv_at hl 0 rfl) ?_
  refine m_get (v := .int hi) (C := R_Ru) (T := T_Ru) (N := 4) hx hb hT in_Ru hown hC.1 hm r rfl hg rfl 0 (by decide) (hT _ k_70) (fun _ h9 => h9) rfl d_Ru_firstThatTells_2 ?_
  refine m_roi (m_runV (As := [.int hi]) (rest := []) ⟨hx, hb, hml, hown, hts⟩ (c_Rd_isAbove l D dA ad G s.heap.size r2 rl cn lm f hi hg2 ha) (cwV 1 hts (gV k_506 k_503 k_504 k_505 k_12) rfl rfl rfl (by decide +kernel) ⟨Nat.le_of_ble_eq_true rfl, Nat.le_of_ble_eq_true rfl⟩) hm hA hC r2 rfl hg2 rfl rfl rfl hl.1 rfl (Nat.le_of_ble_eq_true rfl) d_Ru_firstThatTells_5 ⟨Nat.le_of_ble_eq_true rfl, Nat.le_of_ble_eq_true rfl⟩) hm hA (fun r_1 H locs w_2 hm => ?_)
  refine lv_if_eq (tgt := 13) hx hb d_Ru_firstThatTells_8 (by decide) (fun c_8 => ?_) (fun c_8 => ?_)
  · refine lv_aload_n hx hb d_Ru_firstThatTells_13 rfl (lv_at hl 1 rfl) ?_
    refine lv_aload_n hx hb d_Ru_firstThatTells_14 rfl (lv_at hl 0 rfl) ?_
    refine m_get (v := .int ru) (C := R_Ru) (T := T_Ru) (N := 4) hx hb hT in_Ru hown hC.1 hm r rfl hg rfl 1 (by decide) (hT _ k_72) (fun _ h9 => h9) rfl d_Ru_firstThatTells_15 ?_
    refine m_roi (m_runV (As := [.int ru]) (rest := []) ⟨hx, hb, hml, hown, hts⟩ (c_Rd_isRising l D dA ad G H.size r2 rl cn lm f ru k hk hk1 hk2 hg2 ha) (cwV 1 hts (gV k_510 k_507 k_508 k_509 k_12) rfl rfl rfl (by decide +kernel) ⟨Nat.le_of_ble_eq_true rfl, Nat.le_of_ble_eq_true rfl⟩) hm hA hC r2 rfl hg2 rfl rfl rfl hl.1 rfl (Nat.le_of_ble_eq_true rfl) d_Ru_firstThatTells_18 ⟨Nat.le_of_ble_eq_true rfl, Nat.le_of_ble_eq_true rfl⟩) hm hA (fun r_3 H locs w_4 hm => ?_)
    refine lv_if_eq (tgt := 26) hx hb d_Ru_firstThatTells_21 (by decide) (fun c_21 => ?_) (fun c_21 => ?_)
    · refine lv_aload_n hx hb d_Ru_firstThatTells_26 rfl (lv_at hl 1 rfl) ?_
      refine lv_aload_n hx hb d_Ru_firstThatTells_27 rfl (lv_at hl 0 rfl) ?_
      refine m_get (v := .int mi) (C := R_Ru) (T := T_Ru) (N := 4) hx hb hT in_Ru hown hC.1 hm r rfl hg rfl 2 (by decide) (hT _ k_74) (fun _ h9 => h9) rfl d_Ru_firstThatTells_28 ?_
      refine lv_aload_n hx hb d_Ru_firstThatTells_31 rfl (lv_at hl 0 rfl) ?_
      refine m_get (v := .int ru) (C := R_Ru) (T := T_Ru) (N := 4) hx hb hT in_Ru hown hC.1 hm r rfl hg rfl 1 (by decide) (hT _ k_72) (fun _ h9 => h9) rfl d_Ru_firstThatTells_32 ?_
      refine m_roi (m_runV (As := [.int mi, .int ru]) (rest := []) ⟨hx, hb, hml, hown, hts⟩ (c_Rd_staysAbove l D dA ad G H.size r2 rl cn lm f mi ru k hk hk2 hg2 ha) (cwV 2 hts (gV k_514 k_511 k_512 k_513 k_12) rfl rfl rfl (by decide +kernel) ⟨Nat.le_of_ble_eq_true rfl, Nat.le_of_ble_eq_true rfl⟩) hm hA hC r2 rfl hg2 rfl rfl rfl hl.1 rfl (Nat.le_of_ble_eq_true rfl) d_Ru_firstThatTells_35 ⟨Nat.le_of_ble_eq_true rfl, Nat.le_of_ble_eq_true rfl⟩) hm hA (fun r_5 H locs w_6 hm => ?_)
      refine lv_if_eq (tgt := 43) hx hb d_Ru_firstThatTells_38 (by decide) (fun c_38 => ?_) (fun c_38 => ?_)
      · refine lv_aload_n hx hb d_Ru_firstThatTells_43 rfl (lv_at hl 1 rfl) ?_
        refine lv_aload_n hx hb d_Ru_firstThatTells_44 rfl (lv_at hl 0 rfl) ?_
        refine m_get (v := .int ju) (C := R_Ru) (T := T_Ru) (N := 4) hx hb hT in_Ru hown hC.1 hm r rfl hg rfl 3 (by decide) (hT _ k_76) (fun _ h9 => h9) rfl d_Ru_firstThatTells_45 ?_
        refine m_roi (m_runV (As := [.int ju]) (rest := []) ⟨hx, hb, hml, hown, hts⟩ (c_Rd_isJumping l D dA ad G H.size r2 rl cn lm f ju hg2 ha) (cwV 1 hts (gV k_518 k_515 k_516 k_517 k_12) rfl rfl rfl (by decide +kernel) ⟨Nat.le_of_ble_eq_true rfl, Nat.le_of_ble_eq_true rfl⟩) hm hA hC r2 rfl hg2 rfl rfl rfl hl.1 rfl (Nat.le_of_ble_eq_true rfl) d_Ru_firstThatTells_48 ⟨Nat.le_of_ble_eq_true rfl, Nat.le_of_ble_eq_true rfl⟩) hm hA (fun r_7 H locs w_8 hm => ?_)
        refine lv_if_eq (tgt := 58) hx hb d_Ru_firstThatTells_51 (by decide) (fun c_51 => ?_) (fun c_51 => ?_)
        · refine lv_iconst (v := (-1)) hx hb d_Ru_firstThatTells_58 (by decide) ?_
          exact m_iret (v := (-1)) hx hb hr hm (⟨Or.inr (Or.inr (Or.inr (Or.inr ⟨rfl, bv_eq w_2 c_8, bv_eq w_4 c_21, bv_eq w_6 c_38, bv_eq w_8 c_51⟩))), rfl⟩) d_Ru_firstThatTells_59 hlocks
        · refine lv_iconst (v := 3) hx hb d_Ru_firstThatTells_54 (by decide) ?_
          refine lv_goto (tgt := 59) hx hb d_Ru_firstThatTells_55 (by decide) ?_
          exact m_iret (v := 3) hx hb hr hm (⟨Or.inr (Or.inr (Or.inr (Or.inl ⟨rfl, bv_eq w_2 c_8, bv_eq w_4 c_21, bv_eq w_6 c_38, bv_ne w_8 c_51⟩))), rfl⟩) d_Ru_firstThatTells_59 hlocks
      · refine lv_iconst (v := 2) hx hb d_Ru_firstThatTells_41 (by decide) ?_
        exact m_iret (v := 2) hx hb hr hm (⟨Or.inr (Or.inr (Or.inl ⟨rfl, bv_eq w_2 c_8, bv_eq w_4 c_21, bv_ne w_6 c_38⟩)), rfl⟩) d_Ru_firstThatTells_42 hlocks
    · refine lv_iconst (v := 1) hx hb d_Ru_firstThatTells_24 (by decide) ?_
      exact m_iret (v := 1) hx hb hr hm (⟨Or.inr (Or.inl ⟨rfl, bv_eq w_2 c_8, bv_ne w_4 c_21⟩), rfl⟩) d_Ru_firstThatTells_25 hlocks
  · refine lv_iconst (v := 0) hx hb d_Ru_firstThatTells_11 (by decide) ?_
    exact m_iret (v := 0) hx hb hr hm (⟨Or.inl ⟨rfl, bv_ne w_2 c_8⟩, rfl⟩) d_Ru_firstThatTells_12 hlocks
