set_option maxHeartbeats 4000000 in
set_option maxRecDepth 100000 in
theorem c_M_init (l : Launch) (D : va_G) (dA : Nat → ClassId) (ad : Nat → Nat) (G : mG) (sz : Nat) (a0 : Nat) (p0 : Int32) (hz : a0 = ad 1000) (hn : ∀ r, 1000 < r → r < 1100 → G r = none) (hg : G 1000 = some (.inr (6, [.int 0, .long 0, .int 0, .null, .null, .null, .null, .null, .null, .null, .null, .null, .null, .null, .null, .null, .null, .int 0, .int 0, .int 0, .int 0, .null, .null, .null, .null, .null, .int 0, .int 0]))) : Met l y_M_init (.code y_M_init b_M_init 2 none :: mBig) ({ frames := 1, cells := 19, slots := 632, locals := 12 }) (mPc [.ref a0, .int p0] D mCl (mTys dA) mTx ad G sz) (mQv (fun (u : mU) => (∃ ad1 : Nat → Nat, (∀ x, (x < 1000 ∨ 1100 ≤ x) → ad1 x = ad x) ∧ ad1 1000 = ad 1000 ∧ u = (ad1, gM dA ad1 mA0 mB0 mS0 p0.toInt64 G))) D mCl ad G sz) 19 632 (mA ad G sz) := by
  refine Met.ofW (cc := b_M_init) (maxL := 2) (ret := none) (by decide) rfl ?_
  intro p e s m args below meth c s₁ BB hml hv
  obtain ⟨rfl, hsz, hw0, hC⟩ := hv
  have hx := BB.exec
  have hb := BB.bytes
  have hr := BB.returns
  have hts := atoms_spec (ws := .code y_M_init b_M_init 2 none :: mBig) BB.pre
  have hT : ∀ w ∈ mBig, w.before _ s = true := fun w h => hts w (List.mem_cons_of_mem _ h)
  have hown : s.vm.findClass "EdgeWearModel" = some m.cls := findClass_of_methodNamed BB.named
  have hlocks := BB.notSynchronized
  subst hsz
  have hm := mS.start hw0
  have hin : meth.name = "<init>" := (name_of_methodNamed BB.named BB.method).1
  have hA : ∀ q : Nat, s.heap.size ≤ q → mA ad G s.heap.size q := fun q h => Or.inr h
  have hl := lv_entry ([.ref a0, .int p0]) (n := 2) (Nat.le_of_ble_eq_true rfl)
  rw [lg_entry_eq]
  generalize (lg_sl ([.ref a0, .int p0]) ++ List.replicate (2 - (lg_sl ([.ref a0, .int p0])).length) Slot.unset).toArray = ls at hl ⊢
  have hl : lv_has ls 2 [(0, .ref a0), (1, .int p0)] := hl
  refine lv_aload_n hx hb d_M_init_0 rfl (lv_at hl 0 rfl) ?_
  refine W.objInit hx hb hown (hT _ k_588) (hT _ k_22) (hT _ k_23) rfl (by rw [hml]; exact hl.1) rfl d_M_init_1 (Nat.le_of_ble_eq_true rfl) (Nat.le_of_ble_eq_true rfl) ?_
  refine W.eq (g2 := F0 m 4 ls []) rfl ?_
  refine lv_aload_n hx hb d_M_init_4 rfl (lv_at hl 0 rfl) ?_
  refine lv_bipush (v := 12) hx hb d_M_init_5 (by decide) ?_
  refine m_newa (atype := .int) (ty := .int) (a0 := (12, .inl (fun _ => 0))) (cA := (dA 0)) hx hb (hT _ k_59) rfl hm hA 1003 (hn 1003 (by decide) (by decide)) (show _ from (hC.1.2 0 _ rfl).2) (fun _ => rfl) (by decide) (by decide) (by decide) (Nat.le_of_ble_eq_true rfl) (Nat.le_of_ble_eq_true rfl) d_M_init_7 (fun q_1 H hm => ?_)
  obtain ⟨G_2, eG_2⟩ : ∃ z : mG, z = va_up G 1003 (some (.inl ((dA 0), 12, .inl (fun _ => 0)))) := ⟨_, rfl⟩
  obtain ⟨ad_3, ead_3⟩ : ∃ z : Nat → Nat, z = va_up ad 1003 q_1 := ⟨_, rfl⟩
  have hm : mS D mCl (mA ad G s.heap.size) s.heap ad_3 G_2 H [] := by rw [eG_2, ead_3]; exact hm
  have g_4 := (congrFun eG_2 1000).trans ((va_up_ne _ _ (by decide)).trans hg)
  have g_5 : G_2 1003 = some (.inl ((dA 0), 12, .inl (fun _ => 0))) := by rw [eG_2, va_up_self]
  have z_6 : a0 = ad_3 1000 := by rw [ead_3, va_up_ne _ _ (by decide)]; exact hz
  have z_7 : q_1 = ad_3 1003 := by rw [ead_3, va_up_self]
  refine m_putF (v := .ref q_1) (ty := (.array .int)) (C := R_M) (T := T_M) (N := 28) hx hb hT in_M t_M tok_M nm_M hown hC.1 hm 1000 z_6 g_4 rfl 3 (by decide) (hT _ k_593) (fun _ h9 => h9) rfl hin rfl (by decide +kernel) rfl rfl (Nat.le_of_ble_eq_true rfl) d_M_init_9 (fun H locs hm => ?_)
  obtain ⟨G_8, eG_8⟩ : ∃ z : mG, z = va_up G_2 1000 (some (.inr (6, [.int 0, .long 0, .int 0, .ref q_1, .null, .null, .null, .null, .null, .null, .null, .null, .null, .null, .null, .null, .null, .int 0, .int 0, .int 0, .int 0, .null, .null, .null, .null, .null, .int 0, .int 0]))) := ⟨_, rfl⟩
  have hm : mS D mCl (mA ad G s.heap.size) s.heap ad_3 G_8 H locs := by rw [eG_8]; exact hm
  have g_9 : G_8 1000 = some (.inr (6, [.int 0, .long 0, .int 0, .ref q_1, .null, .null, .null, .null, .null, .null, .null, .null, .null, .null, .null, .null, .null, .int 0, .int 0, .int 0, .int 0, .null, .null, .null, .null, .null, .int 0, .int 0])) := by rw [eG_8, va_up_self]
  have g_10 := (congrFun eG_8 1003).trans ((va_up_ne _ _ (by decide)).trans g_5)
  refine lv_aload_n hx hb d_M_init_12 rfl (lv_at hl 0 rfl) ?_
  refine lv_bipush (v := 12) hx hb d_M_init_13 (by decide) ?_
  refine m_newa (atype := .int) (ty := .int) (a0 := (12, .inl (fun _ => 0))) (cA := (dA 0)) hx hb (hT _ k_59) rfl hm hA 1004 (by rw [eG_8, va_up_ne _ _ (by decide), eG_2, va_up_ne _ _ (by decide)]; exact hn 1004 (by decide) (by decide)) (show _ from (hC.1.2 0 _ rfl).2) (fun _ => rfl) (by decide) (by decide) (by decide) (Nat.le_of_ble_eq_true rfl) (Nat.le_of_ble_eq_true rfl) d_M_init_15 (fun q_11 H hm => ?_)
  obtain ⟨G_12, eG_12⟩ : ∃ z : mG, z = va_up G_8 1004 (some (.inl ((dA 0), 12, .inl (fun _ => 0)))) := ⟨_, rfl⟩
  obtain ⟨ad_13, ead_13⟩ : ∃ z : Nat → Nat, z = va_up ad_3 1004 q_11 := ⟨_, rfl⟩
  have hm : mS D mCl (mA ad G s.heap.size) s.heap ad_13 G_12 H locs := by rw [eG_12, ead_13]; exact hm
  have g_14 := (congrFun eG_12 1000).trans ((va_up_ne _ _ (by decide)).trans g_9)
  have g_15 := (congrFun eG_12 1003).trans ((va_up_ne _ _ (by decide)).trans g_10)
  have g_16 : G_12 1004 = some (.inl ((dA 0), 12, .inl (fun _ => 0))) := by rw [eG_12, va_up_self]
  have z_17 : a0 = ad_13 1000 := by rw [ead_13, va_up_ne _ _ (by decide)]; exact z_6
  have z_18 : q_1 = ad_13 1003 := by rw [ead_13, va_up_ne _ _ (by decide)]; exact z_7
  have z_19 : q_11 = ad_13 1004 := by rw [ead_13, va_up_self]
  refine m_putF (v := .ref q_11) (ty := (.array .int)) (C := R_M) (T := T_M) (N := 28) hx hb hT in_M t_M tok_M nm_M hown hC.1 hm 1000 z_17 g_14 rfl 4 (by decide) (hT _ k_594) (fun _ h9 => h9) rfl hin rfl (by decide +kernel) rfl rfl (Nat.le_of_ble_eq_true rfl) d_M_init_17 (fun H locs hm => ?_)
  obtain ⟨G_20, eG_20⟩ : ∃ z : mG, z = va_up G_12 1000 (some (.inr (6, [.int 0, .long 0, .int 0, .ref q_1, .ref q_11, .null, .null, .null, .null, .null, .null, .null, .null, .null, .null, .null, .null, .int 0, .int 0, .int 0, .int 0, .null, .null, .null, .null, .null, .int 0, .int 0]))) := ⟨_, rfl⟩
  have hm : mS D mCl (mA ad G s.heap.size) s.heap ad_13 G_20 H locs := by rw [eG_20]; exact hm
  have g_21 : G_20 1000 = some (.inr (6, [.int 0, .long 0, .int 0, .ref q_1, .ref q_11, .null, .null, .null, .null, .null, .null, .null, .null, .null, .null, .null, .null, .int 0, .int 0, .int 0, .int 0, .null, .null, .null, .null, .null, .int 0, .int 0])) := by rw [eG_20, va_up_self]
  have g_22 := (congrFun eG_20 1003).trans ((va_up_ne _ _ (by decide)).trans g_15)
  have g_23 := (congrFun eG_20 1004).trans ((va_up_ne _ _ (by decide)).trans g_16)
  refine lv_aload_n hx hb d_M_init_20 rfl (lv_at hl 0 rfl) ?_
  refine lv_bipush (v := 12) hx hb d_M_init_21 (by decide) ?_
  refine m_newa (atype := .int) (ty := .int) (a0 := (12, .inl (fun _ => 0))) (cA := (dA 0)) hx hb (hT _ k_59) rfl hm hA 1005 (by rw [eG_20, va_up_ne _ _ (by decide), eG_12, va_up_ne _ _ (by decide), eG_8, va_up_ne _ _ (by decide), eG_2, va_up_ne _ _ (by decide)]; exact hn 1005 (by decide) (by decide)) (show _ from (hC.1.2 0 _ rfl).2) (fun _ => rfl) (by decide) (by decide) (by decide) (Nat.le_of_ble_eq_true rfl) (Nat.le_of_ble_eq_true rfl) d_M_init_23 (fun q_24 H hm => ?_)
  obtain ⟨G_25, eG_25⟩ : ∃ z : mG, z = va_up G_20 1005 (some (.inl ((dA 0), 12, .inl (fun _ => 0)))) := ⟨_, rfl⟩
  obtain ⟨ad_26, ead_26⟩ : ∃ z : Nat → Nat, z = va_up ad_13 1005 q_24 := ⟨_, rfl⟩
  have hm : mS D mCl (mA ad G s.heap.size) s.heap ad_26 G_25 H locs := by rw [eG_25, ead_26]; exact hm
  have g_27 := (congrFun eG_25 1000).trans ((va_up_ne _ _ (by decide)).trans g_21)
  have g_28 := (congrFun eG_25 1003).trans ((va_up_ne _ _ (by decide)).trans g_22)
  have g_29 := (congrFun eG_25 1004).trans ((va_up_ne _ _ (by decide)).trans g_23)
  have g_30 : G_25 1005 = some (.inl ((dA 0), 12, .inl (fun _ => 0))) := by rw [eG_25, va_up_self]
  have z_31 : a0 = ad_26 1000 := by rw [ead_26, va_up_ne _ _ (by decide)]; exact z_17
  have z_32 : q_1 = ad_26 1003 := by rw [ead_26, va_up_ne _ _ (by decide)]; exact z_18
  have z_33 : q_11 = ad_26 1004 := by rw [ead_26, va_up_ne _ _ (by decide)]; exact z_19
  have z_34 : q_24 = ad_26 1005 := by rw [ead_26, va_up_self]
  refine m_putF (v := .ref q_24) (ty := (.array .int)) (C := R_M) (T := T_M) (N := 28) hx hb hT in_M t_M tok_M nm_M hown hC.1 hm 1000 z_31 g_27 rfl 5 (by decide) (hT _ k_595) (fun _ h9 => h9) rfl hin rfl (by decide +kernel) rfl rfl (Nat.le_of_ble_eq_true rfl) d_M_init_25 (fun H locs hm => ?_)
  obtain ⟨G_35, eG_35⟩ : ∃ z : mG, z = va_up G_25 1000 (some (.inr (6, [.int 0, .long 0, .int 0, .ref q_1, .ref q_11, .ref q_24, .null, .null, .null, .null, .null, .null, .null, .null, .null, .null, .null, .int 0, .int 0, .int 0, .int 0, .null, .null, .null, .null, .null, .int 0, .int 0]))) := ⟨_, rfl⟩
  have hm : mS D mCl (mA ad G s.heap.size) s.heap ad_26 G_35 H locs := by rw [eG_35]; exact hm
  have g_36 : G_35 1000 = some (.inr (6, [.int 0, .long 0, .int 0, .ref q_1, .ref q_11, .ref q_24, .null, .null, .null, .null, .null, .null, .null, .null, .null, .null, .null, .int 0, .int 0, .int 0, .int 0, .null, .null, .null, .null, .null, .int 0, .int 0])) := by rw [eG_35, va_up_self]
  have g_37 := (congrFun eG_35 1003).trans ((va_up_ne _ _ (by decide)).trans g_28)
  have g_38 := (congrFun eG_35 1004).trans ((va_up_ne _ _ (by decide)).trans g_29)
  have g_39 := (congrFun eG_35 1005).trans ((va_up_ne _ _ (by decide)).trans g_30)
  refine lv_aload_n hx hb d_M_init_28 rfl (lv_at hl 0 rfl) ?_
  refine lv_bipush (v := 12) hx hb d_M_init_29 (by decide) ?_
  refine m_newa (atype := .long) (ty := .long) (a0 := (12, .inr (.inl (fun _ => 0)))) (cA := (dA 1)) hx hb (hT _ k_675) rfl hm hA 1006 (by rw [eG_35, va_up_ne _ _ (by decide), eG_25, va_up_ne _ _ (by decide), eG_20, va_up_ne _ _ (by decide), eG_12, va_up_ne _ _ (by decide), eG_8, va_up_ne _ _ (by decide), eG_2, va_up_ne _ _ (by decide)]; exact hn 1006 (by decide) (by decide)) (show _ from (hC.1.2 1 _ rfl).2) (fun _ => rfl) (by decide) (by decide) (by decide) (Nat.le_of_ble_eq_true rfl) (Nat.le_of_ble_eq_true rfl) d_M_init_31 (fun q_40 H hm => ?_)
  obtain ⟨G_41, eG_41⟩ : ∃ z : mG, z = va_up G_35 1006 (some (.inl ((dA 1), 12, .inr (.inl (fun _ => 0))))) := ⟨_, rfl⟩
  obtain ⟨ad_42, ead_42⟩ : ∃ z : Nat → Nat, z = va_up ad_26 1006 q_40 := ⟨_, rfl⟩
  have hm : mS D mCl (mA ad G s.heap.size) s.heap ad_42 G_41 H locs := by rw [eG_41, ead_42]; exact hm
  have g_43 := (congrFun eG_41 1000).trans ((va_up_ne _ _ (by decide)).trans g_36)
  have g_44 := (congrFun eG_41 1003).trans ((va_up_ne _ _ (by decide)).trans g_37)
  have g_45 := (congrFun eG_41 1004).trans ((va_up_ne _ _ (by decide)).trans g_38)
  have g_46 := (congrFun eG_41 1005).trans ((va_up_ne _ _ (by decide)).trans g_39)
  have g_47 : G_41 1006 = some (.inl ((dA 1), 12, .inr (.inl (fun _ => 0)))) := by rw [eG_41, va_up_self]
  have z_48 : a0 = ad_42 1000 := by rw [ead_42, va_up_ne _ _ (by decide)]; exact z_31
  have z_49 : q_1 = ad_42 1003 := by rw [ead_42, va_up_ne _ _ (by decide)]; exact z_32
  have z_50 : q_11 = ad_42 1004 := by rw [ead_42, va_up_ne _ _ (by decide)]; exact z_33
  have z_51 : q_24 = ad_42 1005 := by rw [ead_42, va_up_ne _ _ (by decide)]; exact z_34
  have z_52 : q_40 = ad_42 1006 := by rw [ead_42, va_up_self]
  refine m_putF (v := .ref q_40) (ty := (.array .long)) (C := R_M) (T := T_M) (N := 28) hx hb hT in_M t_M tok_M nm_M hown hC.1 hm 1000 z_48 g_43 rfl 6 (by decide) (hT _ k_596) (fun _ h9 => h9) rfl hin rfl (by decide +kernel) rfl rfl (Nat.le_of_ble_eq_true rfl) d_M_init_33 (fun H locs hm => ?_)
  obtain ⟨G_53, eG_53⟩ : ∃ z : mG, z = va_up G_41 1000 (some (.inr (6, [.int 0, .long 0, .int 0, .ref q_1, .ref q_11, .ref q_24, .ref q_40, .null, .null, .null, .null, .null, .null, .null, .null, .null, .null, .int 0, .int 0, .int 0, .int 0, .null, .null, .null, .null, .null, .int 0, .int 0]))) := ⟨_, rfl⟩
  have hm : mS D mCl (mA ad G s.heap.size) s.heap ad_42 G_53 H locs := by rw [eG_53]; exact hm
  have g_54 : G_53 1000 = some (.inr (6, [.int 0, .long 0, .int 0, .ref q_1, .ref q_11, .ref q_24, .ref q_40, .null, .null, .null, .null, .null, .null, .null, .null, .null, .null, .int 0, .int 0, .int 0, .int 0, .null, .null, .null, .null, .null, .int 0, .int 0])) := by rw [eG_53, va_up_self]
  have g_55 := (congrFun eG_53 1003).trans ((va_up_ne _ _ (by decide)).trans g_44)
  have g_56 := (congrFun eG_53 1004).trans ((va_up_ne _ _ (by decide)).trans g_45)
  have g_57 := (congrFun eG_53 1005).trans ((va_up_ne _ _ (by decide)).trans g_46)
  have g_58 := (congrFun eG_53 1006).trans ((va_up_ne _ _ (by decide)).trans g_47)
  refine lv_aload_n hx hb d_M_init_36 rfl (lv_at hl 0 rfl) ?_
  refine lv_bipush (v := 12) hx hb d_M_init_37 (by decide) ?_
  refine m_newa (atype := .boolean) (ty := .boolean) (a0 := (12, .inl (fun _ => 0))) (cA := (dA 2)) hx hb (hT _ k_676) rfl hm hA 1007 (by rw [eG_53, va_up_ne _ _ (by decide), eG_41, va_up_ne _ _ (by decide), eG_35, va_up_ne _ _ (by decide), eG_25, va_up_ne _ _ (by decide), eG_20, va_up_ne _ _ (by decide), eG_12, va_up_ne _ _ (by decide), eG_8, va_up_ne _ _ (by decide), eG_2, va_up_ne _ _ (by decide)]; exact hn 1007 (by decide) (by decide)) (show _ from (hC.1.2 2 _ rfl).2) (fun _ => rfl) (by decide) (by decide) (by decide) (Nat.le_of_ble_eq_true rfl) (Nat.le_of_ble_eq_true rfl) d_M_init_39 (fun q_59 H hm => ?_)
  obtain ⟨G_60, eG_60⟩ : ∃ z : mG, z = va_up G_53 1007 (some (.inl ((dA 2), 12, .inl (fun _ => 0)))) := ⟨_, rfl⟩
  obtain ⟨ad_61, ead_61⟩ : ∃ z : Nat → Nat, z = va_up ad_42 1007 q_59 := ⟨_, rfl⟩
  have hm : mS D mCl (mA ad G s.heap.size) s.heap ad_61 G_60 H locs := by rw [eG_60, ead_61]; exact hm
  have g_62 := (congrFun eG_60 1000).trans ((va_up_ne _ _ (by decide)).trans g_54)
  have g_63 := (congrFun eG_60 1003).trans ((va_up_ne _ _ (by decide)).trans g_55)
  have g_64 := (congrFun eG_60 1004).trans ((va_up_ne _ _ (by decide)).trans g_56)
  have g_65 := (congrFun eG_60 1005).trans ((va_up_ne _ _ (by decide)).trans g_57)
  have g_66 := (congrFun eG_60 1006).trans ((va_up_ne _ _ (by decide)).trans g_58)
  have g_67 : G_60 1007 = some (.inl ((dA 2), 12, .inl (fun _ => 0))) := by rw [eG_60, va_up_self]
  have z_68 : a0 = ad_61 1000 := by rw [ead_61, va_up_ne _ _ (by decide)]; exact z_48
  have z_69 : q_1 = ad_61 1003 := by rw [ead_61, va_up_ne _ _ (by decide)]; exact z_49
  have z_70 : q_11 = ad_61 1004 := by rw [ead_61, va_up_ne _ _ (by decide)]; exact z_50
  have z_71 : q_24 = ad_61 1005 := by rw [ead_61, va_up_ne _ _ (by decide)]; exact z_51
  have z_72 : q_40 = ad_61 1006 := by rw [ead_61, va_up_ne _ _ (by decide)]; exact z_52
  have z_73 : q_59 = ad_61 1007 := by rw [ead_61, va_up_self]
  refine m_putF (v := .ref q_59) (ty := (.array .boolean)) (C := R_M) (T := T_M) (N := 28) hx hb hT in_M t_M tok_M nm_M hown hC.1 hm 1000 z_68 g_62 rfl 7 (by decide) (hT _ k_597) (fun _ h9 => h9) rfl hin rfl (by decide +kernel) rfl rfl (Nat.le_of_ble_eq_true rfl) d_M_init_41 (fun H locs hm => ?_)
  obtain ⟨G_74, eG_74⟩ : ∃ z : mG, z = va_up G_60 1000 (some (.inr (6, [.int 0, .long 0, .int 0, .ref q_1, .ref q_11, .ref q_24, .ref q_40, .ref q_59, .null, .null, .null, .null, .null, .null, .null, .null, .null, .int 0, .int 0, .int 0, .int 0, .null, .null, .null, .null, .null, .int 0, .int 0]))) := ⟨_, rfl⟩
  have hm : mS D mCl (mA ad G s.heap.size) s.heap ad_61 G_74 H locs := by rw [eG_74]; exact hm
  have g_75 : G_74 1000 = some (.inr (6, [.int 0, .long 0, .int 0, .ref q_1, .ref q_11, .ref q_24, .ref q_40, .ref q_59, .null, .null, .null, .null, .null, .null, .null, .null, .null, .int 0, .int 0, .int 0, .int 0, .null, .null, .null, .null, .null, .int 0, .int 0])) := by rw [eG_74, va_up_self]
  have g_76 := (congrFun eG_74 1003).trans ((va_up_ne _ _ (by decide)).trans g_63)
  have g_77 := (congrFun eG_74 1004).trans ((va_up_ne _ _ (by decide)).trans g_64)
  have g_78 := (congrFun eG_74 1005).trans ((va_up_ne _ _ (by decide)).trans g_65)
  have g_79 := (congrFun eG_74 1006).trans ((va_up_ne _ _ (by decide)).trans g_66)
  have g_80 := (congrFun eG_74 1007).trans ((va_up_ne _ _ (by decide)).trans g_67)
  refine lv_aload_n hx hb d_M_init_44 rfl (lv_at hl 0 rfl) ?_
  refine lv_bipush (v := 12) hx hb d_M_init_45 (by decide) ?_
  refine m_newa (atype := .boolean) (ty := .boolean) (a0 := (12, .inl (fun _ => 0))) (cA := (dA 2)) hx hb (hT _ k_676) rfl hm hA 1008 (by rw [eG_74, va_up_ne _ _ (by decide), eG_60, va_up_ne _ _ (by decide), eG_53, va_up_ne _ _ (by decide), eG_41, va_up_ne _ _ (by decide), eG_35, va_up_ne _ _ (by decide), eG_25, va_up_ne _ _ (by decide), eG_20, va_up_ne _ _ (by decide), eG_12, va_up_ne _ _ (by decide), eG_8, va_up_ne _ _ (by decide), eG_2, va_up_ne _ _ (by decide)]; exact hn 1008 (by decide) (by decide)) (show _ from (hC.1.2 2 _ rfl).2) (fun _ => rfl) (by decide) (by decide) (by decide) (Nat.le_of_ble_eq_true rfl) (Nat.le_of_ble_eq_true rfl) d_M_init_47 (fun q_81 H hm => ?_)
  obtain ⟨G_82, eG_82⟩ : ∃ z : mG, z = va_up G_74 1008 (some (.inl ((dA 2), 12, .inl (fun _ => 0)))) := ⟨_, rfl⟩
  obtain ⟨ad_83, ead_83⟩ : ∃ z : Nat → Nat, z = va_up ad_61 1008 q_81 := ⟨_, rfl⟩
  have hm : mS D mCl (mA ad G s.heap.size) s.heap ad_83 G_82 H locs := by rw [eG_82, ead_83]; exact hm
  have g_84 := (congrFun eG_82 1000).trans ((va_up_ne _ _ (by decide)).trans g_75)
  have g_85 := (congrFun eG_82 1003).trans ((va_up_ne _ _ (by decide)).trans g_76)
  have g_86 := (congrFun eG_82 1004).trans ((va_up_ne _ _ (by decide)).trans g_77)
  have g_87 := (congrFun eG_82 1005).trans ((va_up_ne _ _ (by decide)).trans g_78)
  have g_88 := (congrFun eG_82 1006).trans ((va_up_ne _ _ (by decide)).trans g_79)
  have g_89 := (congrFun eG_82 1007).trans ((va_up_ne _ _ (by decide)).trans g_80)
  have g_90 : G_82 1008 = some (.inl ((dA 2), 12, .inl (fun _ => 0))) := by rw [eG_82, va_up_self]
  have z_91 : a0 = ad_83 1000 := by rw [ead_83, va_up_ne _ _ (by decide)]; exact z_68
  have z_92 : q_1 = ad_83 1003 := by rw [ead_83, va_up_ne _ _ (by decide)]; exact z_69
  have z_93 : q_11 = ad_83 1004 := by rw [ead_83, va_up_ne _ _ (by decide)]; exact z_70
  have z_94 : q_24 = ad_83 1005 := by rw [ead_83, va_up_ne _ _ (by decide)]; exact z_71
  have z_95 : q_40 = ad_83 1006 := by rw [ead_83, va_up_ne _ _ (by decide)]; exact z_72
  have z_96 : q_59 = ad_83 1007 := by rw [ead_83, va_up_ne _ _ (by decide)]; exact z_73
  have z_97 : q_81 = ad_83 1008 := by rw [ead_83, va_up_self]
  refine m_putF (v := .ref q_81) (ty := (.array .boolean)) (C := R_M) (T := T_M) (N := 28) hx hb hT in_M t_M tok_M nm_M hown hC.1 hm 1000 z_91 g_84 rfl 8 (by decide) (hT _ k_598) (fun _ h9 => h9) rfl hin rfl (by decide +kernel) rfl rfl (Nat.le_of_ble_eq_true rfl) d_M_init_49 (fun H locs hm => ?_)
  obtain ⟨G_98, eG_98⟩ : ∃ z : mG, z = va_up G_82 1000 (some (.inr (6, [.int 0, .long 0, .int 0, .ref q_1, .ref q_11, .ref q_24, .ref q_40, .ref q_59, .ref q_81, .null, .null, .null, .null, .null, .null, .null, .null, .int 0, .int 0, .int 0, .int 0, .null, .null, .null, .null, .null, .int 0, .int 0]))) := ⟨_, rfl⟩
  have hm : mS D mCl (mA ad G s.heap.size) s.heap ad_83 G_98 H locs := by rw [eG_98]; exact hm
  have g_99 : G_98 1000 = some (.inr (6, [.int 0, .long 0, .int 0, .ref q_1, .ref q_11, .ref q_24, .ref q_40, .ref q_59, .ref q_81, .null, .null, .null, .null, .null, .null, .null, .null, .int 0, .int 0, .int 0, .int 0, .null, .null, .null, .null, .null, .int 0, .int 0])) := by rw [eG_98, va_up_self]
  have g_100 := (congrFun eG_98 1003).trans ((va_up_ne _ _ (by decide)).trans g_85)
  have g_101 := (congrFun eG_98 1004).trans ((va_up_ne _ _ (by decide)).trans g_86)
  have g_102 := (congrFun eG_98 1005).trans ((va_up_ne _ _ (by decide)).trans g_87)
  have g_103 := (congrFun eG_98 1006).trans ((va_up_ne _ _ (by decide)).trans g_88)
  have g_104 := (congrFun eG_98 1007).trans ((va_up_ne _ _ (by decide)).trans g_89)
  have g_105 := (congrFun eG_98 1008).trans ((va_up_ne _ _ (by decide)).trans g_90)
  refine lv_aload_n hx hb d_M_init_52 rfl (lv_at hl 0 rfl) ?_
  refine lv_bipush (v := 12) hx hb d_M_init_53 (by decide) ?_
  refine m_newa (atype := .int) (ty := .int) (a0 := (12, .inl (fun _ => 0))) (cA := (dA 0)) hx hb (hT _ k_59) rfl hm hA 1009 (by rw [eG_98, va_up_ne _ _ (by decide), eG_82, va_up_ne _ _ (by decide), eG_74, va_up_ne _ _ (by decide), eG_60, va_up_ne _ _ (by decide), eG_53, va_up_ne _ _ (by decide), eG_41, va_up_ne _ _ (by decide), eG_35, va_up_ne _ _ (by decide), eG_25, va_up_ne _ _ (by decide), eG_20, va_up_ne _ _ (by decide), eG_12, va_up_ne _ _ (by decide), eG_8, va_up_ne _ _ (by decide), eG_2, va_up_ne _ _ (by decide)]; exact hn 1009 (by decide) (by decide)) (show _ from (hC.1.2 0 _ rfl).2) (fun _ => rfl) (by decide) (by decide) (by decide) (Nat.le_of_ble_eq_true rfl) (Nat.le_of_ble_eq_true rfl) d_M_init_55 (fun q_106 H hm => ?_)
  obtain ⟨G_107, eG_107⟩ : ∃ z : mG, z = va_up G_98 1009 (some (.inl ((dA 0), 12, .inl (fun _ => 0)))) := ⟨_, rfl⟩
  obtain ⟨ad_108, ead_108⟩ : ∃ z : Nat → Nat, z = va_up ad_83 1009 q_106 := ⟨_, rfl⟩
  have hm : mS D mCl (mA ad G s.heap.size) s.heap ad_108 G_107 H locs := by rw [eG_107, ead_108]; exact hm
  have g_109 := (congrFun eG_107 1000).trans ((va_up_ne _ _ (by decide)).trans g_99)
  have g_110 := (congrFun eG_107 1003).trans ((va_up_ne _ _ (by decide)).trans g_100)
  have g_111 := (congrFun eG_107 1004).trans ((va_up_ne _ _ (by decide)).trans g_101)
  have g_112 := (congrFun eG_107 1005).trans ((va_up_ne _ _ (by decide)).trans g_102)
  have g_113 := (congrFun eG_107 1006).trans ((va_up_ne _ _ (by decide)).trans g_103)
  have g_114 := (congrFun eG_107 1007).trans ((va_up_ne _ _ (by decide)).trans g_104)
  have g_115 := (congrFun eG_107 1008).trans ((va_up_ne _ _ (by decide)).trans g_105)
  have g_116 : G_107 1009 = some (.inl ((dA 0), 12, .inl (fun _ => 0))) := by rw [eG_107, va_up_self]
  have z_117 : a0 = ad_108 1000 := by rw [ead_108, va_up_ne _ _ (by decide)]; exact z_91
  have z_118 : q_1 = ad_108 1003 := by rw [ead_108, va_up_ne _ _ (by decide)]; exact z_92
  have z_119 : q_11 = ad_108 1004 := by rw [ead_108, va_up_ne _ _ (by decide)]; exact z_93
  have z_120 : q_24 = ad_108 1005 := by rw [ead_108, va_up_ne _ _ (by decide)]; exact z_94
  have z_121 : q_40 = ad_108 1006 := by rw [ead_108, va_up_ne _ _ (by decide)]; exact z_95
  have z_122 : q_59 = ad_108 1007 := by rw [ead_108, va_up_ne _ _ (by decide)]; exact z_96
  have z_123 : q_81 = ad_108 1008 := by rw [ead_108, va_up_ne _ _ (by decide)]; exact z_97
  have z_124 : q_106 = ad_108 1009 := by rw [ead_108, va_up_self]
  refine m_putF (v := .ref q_106) (ty := (.array .int)) (C := R_M) (T := T_M) (N := 28) hx hb hT in_M t_M tok_M nm_M hown hC.1 hm 1000 z_117 g_109 rfl 9 (by decide) (hT _ k_599) (fun _ h9 => h9) rfl hin rfl (by decide +kernel) rfl rfl (Nat.le_of_ble_eq_true rfl) d_M_init_57 (fun H locs hm => ?_)
  obtain ⟨G_125, eG_125⟩ : ∃ z : mG, z = va_up G_107 1000 (some (.inr (6, [.int 0, .long 0, .int 0, .ref q_1, .ref q_11, .ref q_24, .ref q_40, .ref q_59, .ref q_81, .ref q_106, .null, .null, .null, .null, .null, .null, .null, .int 0, .int 0, .int 0, .int 0, .null, .null, .null, .null, .null, .int 0, .int 0]))) := ⟨_, rfl⟩
  have hm : mS D mCl (mA ad G s.heap.size) s.heap ad_108 G_125 H locs := by rw [eG_125]; exact hm
  have g_126 : G_125 1000 = some (.inr (6, [.int 0, .long 0, .int 0, .ref q_1, .ref q_11, .ref q_24, .ref q_40, .ref q_59, .ref q_81, .ref q_106, .null, .null, .null, .null, .null, .null, .null, .int 0, .int 0, .int 0, .int 0, .null, .null, .null, .null, .null, .int 0, .int 0])) := by rw [eG_125, va_up_self]
  have g_127 := (congrFun eG_125 1003).trans ((va_up_ne _ _ (by decide)).trans g_110)
  have g_128 := (congrFun eG_125 1004).trans ((va_up_ne _ _ (by decide)).trans g_111)
  have g_129 := (congrFun eG_125 1005).trans ((va_up_ne _ _ (by decide)).trans g_112)
  have g_130 := (congrFun eG_125 1006).trans ((va_up_ne _ _ (by decide)).trans g_113)
  have g_131 := (congrFun eG_125 1007).trans ((va_up_ne _ _ (by decide)).trans g_114)
  have g_132 := (congrFun eG_125 1008).trans ((va_up_ne _ _ (by decide)).trans g_115)
  have g_133 := (congrFun eG_125 1009).trans ((va_up_ne _ _ (by decide)).trans g_116)
  refine lv_aload_n hx hb d_M_init_60 rfl (lv_at hl 0 rfl) ?_
  refine lv_bipush (v := 12) hx hb d_M_init_61 (by decide) ?_
  refine m_newa (atype := .int) (ty := .int) (a0 := (12, .inl (fun _ => 0))) (cA := (dA 0)) hx hb (hT _ k_59) rfl hm hA 1010 (by rw [eG_125, va_up_ne _ _ (by decide), eG_107, va_up_ne _ _ (by decide), eG_98, va_up_ne _ _ (by decide), eG_82, va_up_ne _ _ (by decide), eG_74, va_up_ne _ _ (by decide), eG_60, va_up_ne _ _ (by decide), eG_53, va_up_ne _ _ (by decide), eG_41, va_up_ne _ _ (by decide), eG_35, va_up_ne _ _ (by decide), eG_25, va_up_ne _ _ (by decide), eG_20, va_up_ne _ _ (by decide), eG_12, va_up_ne _ _ (by decide), eG_8, va_up_ne _ _ (by decide), eG_2, va_up_ne _ _ (by decide)]; exact hn 1010 (by decide) (by decide)) (show _ from (hC.1.2 0 _ rfl).2) (fun _ => rfl) (by decide) (by decide) (by decide) (Nat.le_of_ble_eq_true rfl) (Nat.le_of_ble_eq_true rfl) d_M_init_63 (fun q_134 H hm => ?_)
  obtain ⟨G_135, eG_135⟩ : ∃ z : mG, z = va_up G_125 1010 (some (.inl ((dA 0), 12, .inl (fun _ => 0)))) := ⟨_, rfl⟩
  obtain ⟨ad_136, ead_136⟩ : ∃ z : Nat → Nat, z = va_up ad_108 1010 q_134 := ⟨_, rfl⟩
  have hm : mS D mCl (mA ad G s.heap.size) s.heap ad_136 G_135 H locs := by rw [eG_135, ead_136]; exact hm
  have g_137 := (congrFun eG_135 1000).trans ((va_up_ne _ _ (by decide)).trans g_126)
  have g_138 := (congrFun eG_135 1003).trans ((va_up_ne _ _ (by decide)).trans g_127)
  have g_139 := (congrFun eG_135 1004).trans ((va_up_ne _ _ (by decide)).trans g_128)
  have g_140 := (congrFun eG_135 1005).trans ((va_up_ne _ _ (by decide)).trans g_129)
  have g_141 := (congrFun eG_135 1006).trans ((va_up_ne _ _ (by decide)).trans g_130)
  have g_142 := (congrFun eG_135 1007).trans ((va_up_ne _ _ (by decide)).trans g_131)
  have g_143 := (congrFun eG_135 1008).trans ((va_up_ne _ _ (by decide)).trans g_132)
  have g_144 := (congrFun eG_135 1009).trans ((va_up_ne _ _ (by decide)).trans g_133)
  have g_145 : G_135 1010 = some (.inl ((dA 0), 12, .inl (fun _ => 0))) := by rw [eG_135, va_up_self]
  have z_146 : a0 = ad_136 1000 := by rw [ead_136, va_up_ne _ _ (by decide)]; exact z_117
  have z_147 : q_1 = ad_136 1003 := by rw [ead_136, va_up_ne _ _ (by decide)]; exact z_118
  have z_148 : q_11 = ad_136 1004 := by rw [ead_136, va_up_ne _ _ (by decide)]; exact z_119
  have z_149 : q_24 = ad_136 1005 := by rw [ead_136, va_up_ne _ _ (by decide)]; exact z_120
  have z_150 : q_40 = ad_136 1006 := by rw [ead_136, va_up_ne _ _ (by decide)]; exact z_121
  have z_151 : q_59 = ad_136 1007 := by rw [ead_136, va_up_ne _ _ (by decide)]; exact z_122
  have z_152 : q_81 = ad_136 1008 := by rw [ead_136, va_up_ne _ _ (by decide)]; exact z_123
  have z_153 : q_106 = ad_136 1009 := by rw [ead_136, va_up_ne _ _ (by decide)]; exact z_124
  have z_154 : q_134 = ad_136 1010 := by rw [ead_136, va_up_self]
  refine m_putF (v := .ref q_134) (ty := (.array .int)) (C := R_M) (T := T_M) (N := 28) hx hb hT in_M t_M tok_M nm_M hown hC.1 hm 1000 z_146 g_137 rfl 10 (by decide) (hT _ k_600) (fun _ h9 => h9) rfl hin rfl (by decide +kernel) rfl rfl (Nat.le_of_ble_eq_true rfl) d_M_init_65 (fun H locs hm => ?_)
  obtain ⟨G_155, eG_155⟩ : ∃ z : mG, z = va_up G_135 1000 (some (.inr (6, [.int 0, .long 0, .int 0, .ref q_1, .ref q_11, .ref q_24, .ref q_40, .ref q_59, .ref q_81, .ref q_106, .ref q_134, .null, .null, .null, .null, .null, .null, .int 0, .int 0, .int 0, .int 0, .null, .null, .null, .null, .null, .int 0, .int 0]))) := ⟨_, rfl⟩
  have hm : mS D mCl (mA ad G s.heap.size) s.heap ad_136 G_155 H locs := by rw [eG_155]; exact hm
  have g_156 : G_155 1000 = some (.inr (6, [.int 0, .long 0, .int 0, .ref q_1, .ref q_11, .ref q_24, .ref q_40, .ref q_59, .ref q_81, .ref q_106, .ref q_134, .null, .null, .null, .null, .null, .null, .int 0, .int 0, .int 0, .int 0, .null, .null, .null, .null, .null, .int 0, .int 0])) := by rw [eG_155, va_up_self]
  have g_157 := (congrFun eG_155 1003).trans ((va_up_ne _ _ (by decide)).trans g_138)
  have g_158 := (congrFun eG_155 1004).trans ((va_up_ne _ _ (by decide)).trans g_139)
  have g_159 := (congrFun eG_155 1005).trans ((va_up_ne _ _ (by decide)).trans g_140)
  have g_160 := (congrFun eG_155 1006).trans ((va_up_ne _ _ (by decide)).trans g_141)
  have g_161 := (congrFun eG_155 1007).trans ((va_up_ne _ _ (by decide)).trans g_142)
  have g_162 := (congrFun eG_155 1008).trans ((va_up_ne _ _ (by decide)).trans g_143)
  have g_163 := (congrFun eG_155 1009).trans ((va_up_ne _ _ (by decide)).trans g_144)
  have g_164 := (congrFun eG_155 1010).trans ((va_up_ne _ _ (by decide)).trans g_145)
  refine lv_aload_n hx hb d_M_init_68 rfl (lv_at hl 0 rfl) ?_
  refine lv_bipush (v := 16) hx hb d_M_init_69 (by decide) ?_
  refine m_newa (atype := .long) (ty := .long) (a0 := (16, .inr (.inl (fun _ => 0)))) (cA := (dA 1)) hx hb (hT _ k_675) rfl hm hA 1011 (by rw [eG_155, va_up_ne _ _ (by decide), eG_135, va_up_ne _ _ (by decide), eG_125, va_up_ne _ _ (by decide), eG_107, va_up_ne _ _ (by decide), eG_98, va_up_ne _ _ (by decide), eG_82, va_up_ne _ _ (by decide), eG_74, va_up_ne _ _ (by decide), eG_60, va_up_ne _ _ (by decide), eG_53, va_up_ne _ _ (by decide), eG_41, va_up_ne _ _ (by decide), eG_35, va_up_ne _ _ (by decide), eG_25, va_up_ne _ _ (by decide), eG_20, va_up_ne _ _ (by decide), eG_12, va_up_ne _ _ (by decide), eG_8, va_up_ne _ _ (by decide), eG_2, va_up_ne _ _ (by decide)]; exact hn 1011 (by decide) (by decide)) (show _ from (hC.1.2 1 _ rfl).2) (fun _ => rfl) (by decide) (by decide) (by decide) (Nat.le_of_ble_eq_true rfl) (Nat.le_of_ble_eq_true rfl) d_M_init_71 (fun q_165 H hm => ?_)
  obtain ⟨G_166, eG_166⟩ : ∃ z : mG, z = va_up G_155 1011 (some (.inl ((dA 1), 16, .inr (.inl (fun _ => 0))))) := ⟨_, rfl⟩
  obtain ⟨ad_167, ead_167⟩ : ∃ z : Nat → Nat, z = va_up ad_136 1011 q_165 := ⟨_, rfl⟩
  have hm : mS D mCl (mA ad G s.heap.size) s.heap ad_167 G_166 H locs := by rw [eG_166, ead_167]; exact hm
  have g_168 := (congrFun eG_166 1000).trans ((va_up_ne _ _ (by decide)).trans g_156)
  have g_169 := (congrFun eG_166 1003).trans ((va_up_ne _ _ (by decide)).trans g_157)
  have g_170 := (congrFun eG_166 1004).trans ((va_up_ne _ _ (by decide)).trans g_158)
  have g_171 := (congrFun eG_166 1005).trans ((va_up_ne _ _ (by decide)).trans g_159)
  have g_172 := (congrFun eG_166 1006).trans ((va_up_ne _ _ (by decide)).trans g_160)
  have g_173 := (congrFun eG_166 1007).trans ((va_up_ne _ _ (by decide)).trans g_161)
  have g_174 := (congrFun eG_166 1008).trans ((va_up_ne _ _ (by decide)).trans g_162)
  have g_175 := (congrFun eG_166 1009).trans ((va_up_ne _ _ (by decide)).trans g_163)
  have g_176 := (congrFun eG_166 1010).trans ((va_up_ne _ _ (by decide)).trans g_164)
  have g_177 : G_166 1011 = some (.inl ((dA 1), 16, .inr (.inl (fun _ => 0)))) := by rw [eG_166, va_up_self]
  have z_178 : a0 = ad_167 1000 := by rw [ead_167, va_up_ne _ _ (by decide)]; exact z_146
  have z_179 : q_1 = ad_167 1003 := by rw [ead_167, va_up_ne _ _ (by decide)]; exact z_147
  have z_180 : q_11 = ad_167 1004 := by rw [ead_167, va_up_ne _ _ (by decide)]; exact z_148
  have z_181 : q_24 = ad_167 1005 := by rw [ead_167, va_up_ne _ _ (by decide)]; exact z_149
  have z_182 : q_40 = ad_167 1006 := by rw [ead_167, va_up_ne _ _ (by decide)]; exact z_150
  have z_183 : q_59 = ad_167 1007 := by rw [ead_167, va_up_ne _ _ (by decide)]; exact z_151
  have z_184 : q_81 = ad_167 1008 := by rw [ead_167, va_up_ne _ _ (by decide)]; exact z_152
  have z_185 : q_106 = ad_167 1009 := by rw [ead_167, va_up_ne _ _ (by decide)]; exact z_153
  have z_186 : q_134 = ad_167 1010 := by rw [ead_167, va_up_ne _ _ (by decide)]; exact z_154
  have z_187 : q_165 = ad_167 1011 := by rw [ead_167, va_up_self]
  refine lv_dup hx hb d_M_init_73 rfl ?_
  refine lv_iconst (v := 0) hx hb d_M_init_74 (by decide) ?_
  refine lv_lconst (v := 1) hx hb d_M_init_75 (by decide) ?_
  refine m_last hx hb hC.1 hm 1011 z_187 1 g_177 rfl (vpc _ _ (by decide)) d_M_init_76 (fun H locs hm => ?_)
  obtain ⟨G_188, eG_188⟩ : ∃ z : mG, z = va_up G_166 1011 (some (.inl ((dA 1), 16, .inr (.inl (vp_updL (fun _ => 0) 0 1))))) := ⟨_, rfl⟩
  have hm : mS D mCl (mA ad G s.heap.size) s.heap ad_167 G_188 H locs := by rw [eG_188]; exact hm
  have g_189 := (congrFun eG_188 1000).trans ((va_up_ne _ _ (by decide)).trans g_168)
  have g_190 := (congrFun eG_188 1003).trans ((va_up_ne _ _ (by decide)).trans g_169)
  have g_191 := (congrFun eG_188 1004).trans ((va_up_ne _ _ (by decide)).trans g_170)
  have g_192 := (congrFun eG_188 1005).trans ((va_up_ne _ _ (by decide)).trans g_171)
  have g_193 := (congrFun eG_188 1006).trans ((va_up_ne _ _ (by decide)).trans g_172)
  have g_194 := (congrFun eG_188 1007).trans ((va_up_ne _ _ (by decide)).trans g_173)
  have g_195 := (congrFun eG_188 1008).trans ((va_up_ne _ _ (by decide)).trans g_174)
  have g_196 := (congrFun eG_188 1009).trans ((va_up_ne _ _ (by decide)).trans g_175)
  have g_197 := (congrFun eG_188 1010).trans ((va_up_ne _ _ (by decide)).trans g_176)
  have g_198 : G_188 1011 = some (.inl ((dA 1), 16, .inr (.inl (vp_updL (fun _ => 0) 0 1)))) := by rw [eG_188, va_up_self]
  refine lv_dup hx hb d_M_init_77 rfl ?_
  refine lv_iconst (v := 1) hx hb d_M_init_78 (by decide) ?_
  refine lv_lconst (v := 1) hx hb d_M_init_79 (by decide) ?_
  refine m_last hx hb hC.1 hm 1011 z_187 1 g_198 rfl (vpc _ _ (by decide)) d_M_init_80 (fun H locs hm => ?_)
  obtain ⟨G_199, eG_199⟩ : ∃ z : mG, z = va_up G_188 1011 (some (.inl ((dA 1), 16, .inr (.inl (vp_updL (vp_updL (fun _ => 0) 0 1) 1 1))))) := ⟨_, rfl⟩
  have hm : mS D mCl (mA ad G s.heap.size) s.heap ad_167 G_199 H locs := by rw [eG_199]; exact hm
  have g_200 := (congrFun eG_199 1000).trans ((va_up_ne _ _ (by decide)).trans g_189)
  have g_201 := (congrFun eG_199 1003).trans ((va_up_ne _ _ (by decide)).trans g_190)
  have g_202 := (congrFun eG_199 1004).trans ((va_up_ne _ _ (by decide)).trans g_191)
  have g_203 := (congrFun eG_199 1005).trans ((va_up_ne _ _ (by decide)).trans g_192)
  have g_204 := (congrFun eG_199 1006).trans ((va_up_ne _ _ (by decide)).trans g_193)
  have g_205 := (congrFun eG_199 1007).trans ((va_up_ne _ _ (by decide)).trans g_194)
  have g_206 := (congrFun eG_199 1008).trans ((va_up_ne _ _ (by decide)).trans g_195)
  have g_207 := (congrFun eG_199 1009).trans ((va_up_ne _ _ (by decide)).trans g_196)
  have g_208 := (congrFun eG_199 1010).trans ((va_up_ne _ _ (by decide)).trans g_197)
  have g_209 : G_199 1011 = some (.inl ((dA 1), 16, .inr (.inl (vp_updL (vp_updL (fun _ => 0) 0 1) 1 1)))) := by rw [eG_199, va_up_self]
  refine lv_dup hx hb d_M_init_81 rfl ?_
  refine lv_iconst (v := 2) hx hb d_M_init_82 (by decide) ?_
  refine lv_lconst (v := 1) hx hb d_M_init_83 (by decide) ?_
  refine m_last hx hb hC.1 hm 1011 z_187 1 g_209 rfl (vpc _ _ (by decide)) d_M_init_84 (fun H locs hm => ?_)
  obtain ⟨G_210, eG_210⟩ : ∃ z : mG, z = va_up G_199 1011 (some (.inl ((dA 1), 16, .inr (.inl (vp_updL (vp_updL (vp_updL (fun _ => 0) 0 1) 1 1) 2 1))))) := ⟨_, rfl⟩
  have hm : mS D mCl (mA ad G s.heap.size) s.heap ad_167 G_210 H locs := by rw [eG_210]; exact hm
  have g_211 := (congrFun eG_210 1000).trans ((va_up_ne _ _ (by decide)).trans g_200)
  have g_212 := (congrFun eG_210 1003).trans ((va_up_ne _ _ (by decide)).trans g_201)
  have g_213 := (congrFun eG_210 1004).trans ((va_up_ne _ _ (by decide)).trans g_202)
  have g_214 := (congrFun eG_210 1005).trans ((va_up_ne _ _ (by decide)).trans g_203)
  have g_215 := (congrFun eG_210 1006).trans ((va_up_ne _ _ (by decide)).trans g_204)
  have g_216 := (congrFun eG_210 1007).trans ((va_up_ne _ _ (by decide)).trans g_205)
  have g_217 := (congrFun eG_210 1008).trans ((va_up_ne _ _ (by decide)).trans g_206)
  have g_218 := (congrFun eG_210 1009).trans ((va_up_ne _ _ (by decide)).trans g_207)
  have g_219 := (congrFun eG_210 1010).trans ((va_up_ne _ _ (by decide)).trans g_208)
  have g_220 : G_210 1011 = some (.inl ((dA 1), 16, .inr (.inl (vp_updL (vp_updL (vp_updL (fun _ => 0) 0 1) 1 1) 2 1)))) := by rw [eG_210, va_up_self]
  refine lv_dup hx hb d_M_init_85 rfl ?_
  refine lv_iconst (v := 3) hx hb d_M_init_86 (by decide) ?_
  refine lv_lconst (v := 1) hx hb d_M_init_87 (by decide) ?_
  refine m_last hx hb hC.1 hm 1011 z_187 1 g_220 rfl (vpc _ _ (by decide)) d_M_init_88 (fun H locs hm => ?_)
  obtain ⟨G_221, eG_221⟩ : ∃ z : mG, z = va_up G_210 1011 (some (.inl ((dA 1), 16, .inr (.inl (vp_updL (vp_updL (vp_updL (vp_updL (fun _ => 0) 0 1) 1 1) 2 1) 3 1))))) := ⟨_, rfl⟩
  have hm : mS D mCl (mA ad G s.heap.size) s.heap ad_167 G_221 H locs := by rw [eG_221]; exact hm
  have g_222 := (congrFun eG_221 1000).trans ((va_up_ne _ _ (by decide)).trans g_211)
  have g_223 := (congrFun eG_221 1003).trans ((va_up_ne _ _ (by decide)).trans g_212)
  have g_224 := (congrFun eG_221 1004).trans ((va_up_ne _ _ (by decide)).trans g_213)
  have g_225 := (congrFun eG_221 1005).trans ((va_up_ne _ _ (by decide)).trans g_214)
  have g_226 := (congrFun eG_221 1006).trans ((va_up_ne _ _ (by decide)).trans g_215)
  have g_227 := (congrFun eG_221 1007).trans ((va_up_ne _ _ (by decide)).trans g_216)
  have g_228 := (congrFun eG_221 1008).trans ((va_up_ne _ _ (by decide)).trans g_217)
  have g_229 := (congrFun eG_221 1009).trans ((va_up_ne _ _ (by decide)).trans g_218)
  have g_230 := (congrFun eG_221 1010).trans ((va_up_ne _ _ (by decide)).trans g_219)
  have g_231 : G_221 1011 = some (.inl ((dA 1), 16, .inr (.inl (vp_updL (vp_updL (vp_updL (vp_updL (fun _ => 0) 0 1) 1 1) 2 1) 3 1)))) := by rw [eG_221, va_up_self]
  refine lv_dup hx hb d_M_init_89 rfl ?_
  refine lv_iconst (v := 4) hx hb d_M_init_90 (by decide) ?_
  refine lv_lconst (v := 1) hx hb d_M_init_91 (by decide) ?_
  refine m_last hx hb hC.1 hm 1011 z_187 1 g_231 rfl (vpc _ _ (by decide)) d_M_init_92 (fun H locs hm => ?_)
  obtain ⟨G_232, eG_232⟩ : ∃ z : mG, z = va_up G_221 1011 (some (.inl ((dA 1), 16, .inr (.inl (vp_updL (vp_updL (vp_updL (vp_updL (vp_updL (fun _ => 0) 0 1) 1 1) 2 1) 3 1) 4 1))))) := ⟨_, rfl⟩
  have hm : mS D mCl (mA ad G s.heap.size) s.heap ad_167 G_232 H locs := by rw [eG_232]; exact hm
  have g_233 := (congrFun eG_232 1000).trans ((va_up_ne _ _ (by decide)).trans g_222)
  have g_234 := (congrFun eG_232 1003).trans ((va_up_ne _ _ (by decide)).trans g_223)
  have g_235 := (congrFun eG_232 1004).trans ((va_up_ne _ _ (by decide)).trans g_224)
  have g_236 := (congrFun eG_232 1005).trans ((va_up_ne _ _ (by decide)).trans g_225)
  have g_237 := (congrFun eG_232 1006).trans ((va_up_ne _ _ (by decide)).trans g_226)
  have g_238 := (congrFun eG_232 1007).trans ((va_up_ne _ _ (by decide)).trans g_227)
  have g_239 := (congrFun eG_232 1008).trans ((va_up_ne _ _ (by decide)).trans g_228)
  have g_240 := (congrFun eG_232 1009).trans ((va_up_ne _ _ (by decide)).trans g_229)
  have g_241 := (congrFun eG_232 1010).trans ((va_up_ne _ _ (by decide)).trans g_230)
  have g_242 : G_232 1011 = some (.inl ((dA 1), 16, .inr (.inl (vp_updL (vp_updL (vp_updL (vp_updL (vp_updL (fun _ => 0) 0 1) 1 1) 2 1) 3 1) 4 1)))) := by rw [eG_232, va_up_self]
  refine lv_dup hx hb d_M_init_93 rfl ?_
  refine lv_iconst (v := 5) hx hb d_M_init_94 (by decide) ?_
  refine lv_lconst (v := 1) hx hb d_M_init_95 (by decide) ?_
  refine m_last hx hb hC.1 hm 1011 z_187 1 g_242 rfl (vpc _ _ (by decide)) d_M_init_96 (fun H locs hm => ?_)
  obtain ⟨G_243, eG_243⟩ : ∃ z : mG, z = va_up G_232 1011 (some (.inl ((dA 1), 16, .inr (.inl (vp_updL (vp_updL (vp_updL (vp_updL (vp_updL (vp_updL (fun _ => 0) 0 1) 1 1) 2 1) 3 1) 4 1) 5 1))))) := ⟨_, rfl⟩
  have hm : mS D mCl (mA ad G s.heap.size) s.heap ad_167 G_243 H locs := by rw [eG_243]; exact hm
  have g_244 := (congrFun eG_243 1000).trans ((va_up_ne _ _ (by decide)).trans g_233)
  have g_245 := (congrFun eG_243 1003).trans ((va_up_ne _ _ (by decide)).trans g_234)
  have g_246 := (congrFun eG_243 1004).trans ((va_up_ne _ _ (by decide)).trans g_235)
  have g_247 := (congrFun eG_243 1005).trans ((va_up_ne _ _ (by decide)).trans g_236)
  have g_248 := (congrFun eG_243 1006).trans ((va_up_ne _ _ (by decide)).trans g_237)
  have g_249 := (congrFun eG_243 1007).trans ((va_up_ne _ _ (by decide)).trans g_238)
  have g_250 := (congrFun eG_243 1008).trans ((va_up_ne _ _ (by decide)).trans g_239)
  have g_251 := (congrFun eG_243 1009).trans ((va_up_ne _ _ (by decide)).trans g_240)
  have g_252 := (congrFun eG_243 1010).trans ((va_up_ne _ _ (by decide)).trans g_241)
  have g_253 : G_243 1011 = some (.inl ((dA 1), 16, .inr (.inl (vp_updL (vp_updL (vp_updL (vp_updL (vp_updL (vp_updL (fun _ => 0) 0 1) 1 1) 2 1) 3 1) 4 1) 5 1)))) := by rw [eG_243, va_up_self]
  refine lv_dup hx hb d_M_init_97 rfl ?_
  refine lv_bipush (v := 6) hx hb d_M_init_98 (by decide) ?_
  refine lv_lconst (v := 1) hx hb d_M_init_100 (by decide) ?_
  refine m_last hx hb hC.1 hm 1011 z_187 1 g_253 rfl (vpc _ _ (by decide)) d_M_init_101 (fun H locs hm => ?_)
  obtain ⟨G_254, eG_254⟩ : ∃ z : mG, z = va_up G_243 1011 (some (.inl ((dA 1), 16, .inr (.inl (vp_updL (vp_updL (vp_updL (vp_updL (vp_updL (vp_updL (vp_updL (fun _ => 0) 0 1) 1 1) 2 1) 3 1) 4 1) 5 1) 6 1))))) := ⟨_, rfl⟩
  have hm : mS D mCl (mA ad G s.heap.size) s.heap ad_167 G_254 H locs := by rw [eG_254]; exact hm
  have g_255 := (congrFun eG_254 1000).trans ((va_up_ne _ _ (by decide)).trans g_244)
  have g_256 := (congrFun eG_254 1003).trans ((va_up_ne _ _ (by decide)).trans g_245)
  have g_257 := (congrFun eG_254 1004).trans ((va_up_ne _ _ (by decide)).trans g_246)
  have g_258 := (congrFun eG_254 1005).trans ((va_up_ne _ _ (by decide)).trans g_247)
  have g_259 := (congrFun eG_254 1006).trans ((va_up_ne _ _ (by decide)).trans g_248)
  have g_260 := (congrFun eG_254 1007).trans ((va_up_ne _ _ (by decide)).trans g_249)
  have g_261 := (congrFun eG_254 1008).trans ((va_up_ne _ _ (by decide)).trans g_250)
  have g_262 := (congrFun eG_254 1009).trans ((va_up_ne _ _ (by decide)).trans g_251)
  have g_263 := (congrFun eG_254 1010).trans ((va_up_ne _ _ (by decide)).trans g_252)
  have g_264 : G_254 1011 = some (.inl ((dA 1), 16, .inr (.inl (vp_updL (vp_updL (vp_updL (vp_updL (vp_updL (vp_updL (vp_updL (fun _ => 0) 0 1) 1 1) 2 1) 3 1) 4 1) 5 1) 6 1)))) := by rw [eG_254, va_up_self]
  refine lv_dup hx hb d_M_init_102 rfl ?_
  refine lv_bipush (v := 7) hx hb d_M_init_103 (by decide) ?_
  refine lv_lconst (v := 1) hx hb d_M_init_105 (by decide) ?_
  refine m_last hx hb hC.1 hm 1011 z_187 1 g_264 rfl (vpc _ _ (by decide)) d_M_init_106 (fun H locs hm => ?_)
  obtain ⟨G_265, eG_265⟩ : ∃ z : mG, z = va_up G_254 1011 (some (.inl ((dA 1), 16, .inr (.inl (vp_updL (vp_updL (vp_updL (vp_updL (vp_updL (vp_updL (vp_updL (vp_updL (fun _ => 0) 0 1) 1 1) 2 1) 3 1) 4 1) 5 1) 6 1) 7 1))))) := ⟨_, rfl⟩
  have hm : mS D mCl (mA ad G s.heap.size) s.heap ad_167 G_265 H locs := by rw [eG_265]; exact hm
  have g_266 := (congrFun eG_265 1000).trans ((va_up_ne _ _ (by decide)).trans g_255)
  have g_267 := (congrFun eG_265 1003).trans ((va_up_ne _ _ (by decide)).trans g_256)
  have g_268 := (congrFun eG_265 1004).trans ((va_up_ne _ _ (by decide)).trans g_257)
  have g_269 := (congrFun eG_265 1005).trans ((va_up_ne _ _ (by decide)).trans g_258)
  have g_270 := (congrFun eG_265 1006).trans ((va_up_ne _ _ (by decide)).trans g_259)
  have g_271 := (congrFun eG_265 1007).trans ((va_up_ne _ _ (by decide)).trans g_260)
  have g_272 := (congrFun eG_265 1008).trans ((va_up_ne _ _ (by decide)).trans g_261)
  have g_273 := (congrFun eG_265 1009).trans ((va_up_ne _ _ (by decide)).trans g_262)
  have g_274 := (congrFun eG_265 1010).trans ((va_up_ne _ _ (by decide)).trans g_263)
  have g_275 : G_265 1011 = some (.inl ((dA 1), 16, .inr (.inl (vp_updL (vp_updL (vp_updL (vp_updL (vp_updL (vp_updL (vp_updL (vp_updL (fun _ => 0) 0 1) 1 1) 2 1) 3 1) 4 1) 5 1) 6 1) 7 1)))) := by rw [eG_265, va_up_self]
  refine lv_dup hx hb d_M_init_107 rfl ?_
  refine lv_bipush (v := 8) hx hb d_M_init_108 (by decide) ?_
  refine lv_lconst (v := 1) hx hb d_M_init_110 (by decide) ?_
  refine m_last hx hb hC.1 hm 1011 z_187 1 g_275 rfl (vpc _ _ (by decide)) d_M_init_111 (fun H locs hm => ?_)
  obtain ⟨G_276, eG_276⟩ : ∃ z : mG, z = va_up G_265 1011 (some (.inl ((dA 1), 16, .inr (.inl (vp_updL (vp_updL (vp_updL (vp_updL (vp_updL (vp_updL (vp_updL (vp_updL (vp_updL (fun _ => 0) 0 1) 1 1) 2 1) 3 1) 4 1) 5 1) 6 1) 7 1) 8 1))))) := ⟨_, rfl⟩
  have hm : mS D mCl (mA ad G s.heap.size) s.heap ad_167 G_276 H locs := by rw [eG_276]; exact hm
  have g_277 := (congrFun eG_276 1000).trans ((va_up_ne _ _ (by decide)).trans g_266)
  have g_278 := (congrFun eG_276 1003).trans ((va_up_ne _ _ (by decide)).trans g_267)
  have g_279 := (congrFun eG_276 1004).trans ((va_up_ne _ _ (by decide)).trans g_268)
  have g_280 := (congrFun eG_276 1005).trans ((va_up_ne _ _ (by decide)).trans g_269)
  have g_281 := (congrFun eG_276 1006).trans ((va_up_ne _ _ (by decide)).trans g_270)
  have g_282 := (congrFun eG_276 1007).trans ((va_up_ne _ _ (by decide)).trans g_271)
  have g_283 := (congrFun eG_276 1008).trans ((va_up_ne _ _ (by decide)).trans g_272)
  have g_284 := (congrFun eG_276 1009).trans ((va_up_ne _ _ (by decide)).trans g_273)
  have g_285 := (congrFun eG_276 1010).trans ((va_up_ne _ _ (by decide)).trans g_274)
  have g_286 : G_276 1011 = some (.inl ((dA 1), 16, .inr (.inl (vp_updL (vp_updL (vp_updL (vp_updL (vp_updL (vp_updL (vp_updL (vp_updL (vp_updL (fun _ => 0) 0 1) 1 1) 2 1) 3 1) 4 1) 5 1) 6 1) 7 1) 8 1)))) := by rw [eG_276, va_up_self]
  refine lv_dup hx hb d_M_init_112 rfl ?_
  refine lv_bipush (v := 9) hx hb d_M_init_113 (by decide) ?_
  refine lv_lconst (v := 1) hx hb d_M_init_115 (by decide) ?_
  refine m_last hx hb hC.1 hm 1011 z_187 1 g_286 rfl (vpc _ _ (by decide)) d_M_init_116 (fun H locs hm => ?_)
  obtain ⟨G_287, eG_287⟩ : ∃ z : mG, z = va_up G_276 1011 (some (.inl ((dA 1), 16, .inr (.inl (vp_updL (vp_updL (vp_updL (vp_updL (vp_updL (vp_updL (vp_updL (vp_updL (vp_updL (vp_updL (fun _ => 0) 0 1) 1 1) 2 1) 3 1) 4 1) 5 1) 6 1) 7 1) 8 1) 9 1))))) := ⟨_, rfl⟩
  have hm : mS D mCl (mA ad G s.heap.size) s.heap ad_167 G_287 H locs := by rw [eG_287]; exact hm
  have g_288 := (congrFun eG_287 1000).trans ((va_up_ne _ _ (by decide)).trans g_277)
  have g_289 := (congrFun eG_287 1003).trans ((va_up_ne _ _ (by decide)).trans g_278)
  have g_290 := (congrFun eG_287 1004).trans ((va_up_ne _ _ (by decide)).trans g_279)
  have g_291 := (congrFun eG_287 1005).trans ((va_up_ne _ _ (by decide)).trans g_280)
  have g_292 := (congrFun eG_287 1006).trans ((va_up_ne _ _ (by decide)).trans g_281)
  have g_293 := (congrFun eG_287 1007).trans ((va_up_ne _ _ (by decide)).trans g_282)
  have g_294 := (congrFun eG_287 1008).trans ((va_up_ne _ _ (by decide)).trans g_283)
  have g_295 := (congrFun eG_287 1009).trans ((va_up_ne _ _ (by decide)).trans g_284)
  have g_296 := (congrFun eG_287 1010).trans ((va_up_ne _ _ (by decide)).trans g_285)
  have g_297 : G_287 1011 = some (.inl ((dA 1), 16, .inr (.inl (vp_updL (vp_updL (vp_updL (vp_updL (vp_updL (vp_updL (vp_updL (vp_updL (vp_updL (vp_updL (fun _ => 0) 0 1) 1 1) 2 1) 3 1) 4 1) 5 1) 6 1) 7 1) 8 1) 9 1)))) := by rw [eG_287, va_up_self]
  refine lv_dup hx hb d_M_init_117 rfl ?_
  refine lv_bipush (v := 10) hx hb d_M_init_118 (by decide) ?_
  refine lv_lconst (v := 1) hx hb d_M_init_120 (by decide) ?_
  refine m_last hx hb hC.1 hm 1011 z_187 1 g_297 rfl (vpc _ _ (by decide)) d_M_init_121 (fun H locs hm => ?_)
  obtain ⟨G_298, eG_298⟩ : ∃ z : mG, z = va_up G_287 1011 (some (.inl ((dA 1), 16, .inr (.inl (vp_updL (vp_updL (vp_updL (vp_updL (vp_updL (vp_updL (vp_updL (vp_updL (vp_updL (vp_updL (vp_updL (fun _ => 0) 0 1) 1 1) 2 1) 3 1) 4 1) 5 1) 6 1) 7 1) 8 1) 9 1) 10 1))))) := ⟨_, rfl⟩
  have hm : mS D mCl (mA ad G s.heap.size) s.heap ad_167 G_298 H locs := by rw [eG_298]; exact hm
  have g_299 := (congrFun eG_298 1000).trans ((va_up_ne _ _ (by decide)).trans g_288)
  have g_300 := (congrFun eG_298 1003).trans ((va_up_ne _ _ (by decide)).trans g_289)
  have g_301 := (congrFun eG_298 1004).trans ((va_up_ne _ _ (by decide)).trans g_290)
  have g_302 := (congrFun eG_298 1005).trans ((va_up_ne _ _ (by decide)).trans g_291)
  have g_303 := (congrFun eG_298 1006).trans ((va_up_ne _ _ (by decide)).trans g_292)
  have g_304 := (congrFun eG_298 1007).trans ((va_up_ne _ _ (by decide)).trans g_293)
  have g_305 := (congrFun eG_298 1008).trans ((va_up_ne _ _ (by decide)).trans g_294)
  have g_306 := (congrFun eG_298 1009).trans ((va_up_ne _ _ (by decide)).trans g_295)
  have g_307 := (congrFun eG_298 1010).trans ((va_up_ne _ _ (by decide)).trans g_296)
  have g_308 : G_298 1011 = some (.inl ((dA 1), 16, .inr (.inl (vp_updL (vp_updL (vp_updL (vp_updL (vp_updL (vp_updL (vp_updL (vp_updL (vp_updL (vp_updL (vp_updL (fun _ => 0) 0 1) 1 1) 2 1) 3 1) 4 1) 5 1) 6 1) 7 1) 8 1) 9 1) 10 1)))) := by rw [eG_298, va_up_self]
  refine lv_dup hx hb d_M_init_122 rfl ?_
  refine lv_bipush (v := 11) hx hb d_M_init_123 (by decide) ?_
  refine lv_lconst (v := 1) hx hb d_M_init_125 (by decide) ?_
  refine m_last hx hb hC.1 hm 1011 z_187 1 g_308 rfl (vpc _ _ (by decide)) d_M_init_126 (fun H locs hm => ?_)
  obtain ⟨G_309, eG_309⟩ : ∃ z : mG, z = va_up G_298 1011 (some (.inl ((dA 1), 16, .inr (.inl (vp_updL (vp_updL (vp_updL (vp_updL (vp_updL (vp_updL (vp_updL (vp_updL (vp_updL (vp_updL (vp_updL (vp_updL (fun _ => 0) 0 1) 1 1) 2 1) 3 1) 4 1) 5 1) 6 1) 7 1) 8 1) 9 1) 10 1) 11 1))))) := ⟨_, rfl⟩
  have hm : mS D mCl (mA ad G s.heap.size) s.heap ad_167 G_309 H locs := by rw [eG_309]; exact hm
  have g_310 := (congrFun eG_309 1000).trans ((va_up_ne _ _ (by decide)).trans g_299)
  have g_311 := (congrFun eG_309 1003).trans ((va_up_ne _ _ (by decide)).trans g_300)
  have g_312 := (congrFun eG_309 1004).trans ((va_up_ne _ _ (by decide)).trans g_301)
  have g_313 := (congrFun eG_309 1005).trans ((va_up_ne _ _ (by decide)).trans g_302)
  have g_314 := (congrFun eG_309 1006).trans ((va_up_ne _ _ (by decide)).trans g_303)
  have g_315 := (congrFun eG_309 1007).trans ((va_up_ne _ _ (by decide)).trans g_304)
  have g_316 := (congrFun eG_309 1008).trans ((va_up_ne _ _ (by decide)).trans g_305)
  have g_317 := (congrFun eG_309 1009).trans ((va_up_ne _ _ (by decide)).trans g_306)
  have g_318 := (congrFun eG_309 1010).trans ((va_up_ne _ _ (by decide)).trans g_307)
  have g_319 : G_309 1011 = some (.inl ((dA 1), 16, .inr (.inl (vp_updL (vp_updL (vp_updL (vp_updL (vp_updL (vp_updL (vp_updL (vp_updL (vp_updL (vp_updL (vp_updL (vp_updL (fun _ => 0) 0 1) 1 1) 2 1) 3 1) 4 1) 5 1) 6 1) 7 1) 8 1) 9 1) 10 1) 11 1)))) := by rw [eG_309, va_up_self]
  refine lv_dup hx hb d_M_init_127 rfl ?_
  refine lv_bipush (v := 12) hx hb d_M_init_128 (by decide) ?_
  refine lv_lconst (v := 1) hx hb d_M_init_130 (by decide) ?_
  refine m_last hx hb hC.1 hm 1011 z_187 1 g_319 rfl (vpc _ _ (by decide)) d_M_init_131 (fun H locs hm => ?_)
  obtain ⟨G_320, eG_320⟩ : ∃ z : mG, z = va_up G_309 1011 (some (.inl ((dA 1), 16, .inr (.inl (vp_updL (vp_updL (vp_updL (vp_updL (vp_updL (vp_updL (vp_updL (vp_updL (vp_updL (vp_updL (vp_updL (vp_updL (vp_updL (fun _ => 0) 0 1) 1 1) 2 1) 3 1) 4 1) 5 1) 6 1) 7 1) 8 1) 9 1) 10 1) 11 1) 12 1))))) := ⟨_, rfl⟩
  have hm : mS D mCl (mA ad G s.heap.size) s.heap ad_167 G_320 H locs := by rw [eG_320]; exact hm
  have g_321 := (congrFun eG_320 1000).trans ((va_up_ne _ _ (by decide)).trans g_310)
  have g_322 := (congrFun eG_320 1003).trans ((va_up_ne _ _ (by decide)).trans g_311)
  have g_323 := (congrFun eG_320 1004).trans ((va_up_ne _ _ (by decide)).trans g_312)
  have g_324 := (congrFun eG_320 1005).trans ((va_up_ne _ _ (by decide)).trans g_313)
  have g_325 := (congrFun eG_320 1006).trans ((va_up_ne _ _ (by decide)).trans g_314)
  have g_326 := (congrFun eG_320 1007).trans ((va_up_ne _ _ (by decide)).trans g_315)
  have g_327 := (congrFun eG_320 1008).trans ((va_up_ne _ _ (by decide)).trans g_316)
  have g_328 := (congrFun eG_320 1009).trans ((va_up_ne _ _ (by decide)).trans g_317)
  have g_329 := (congrFun eG_320 1010).trans ((va_up_ne _ _ (by decide)).trans g_318)
  have g_330 : G_320 1011 = some (.inl ((dA 1), 16, .inr (.inl (vp_updL (vp_updL (vp_updL (vp_updL (vp_updL (vp_updL (vp_updL (vp_updL (vp_updL (vp_updL (vp_updL (vp_updL (vp_updL (fun _ => 0) 0 1) 1 1) 2 1) 3 1) 4 1) 5 1) 6 1) 7 1) 8 1) 9 1) 10 1) 11 1) 12 1)))) := by rw [eG_320, va_up_self]
  refine lv_dup hx hb d_M_init_132 rfl ?_
  refine lv_bipush (v := 13) hx hb d_M_init_133 (by decide) ?_
  refine lv_lconst (v := 1) hx hb d_M_init_135 (by decide) ?_
  refine m_last hx hb hC.1 hm 1011 z_187 1 g_330 rfl (vpc _ _ (by decide)) d_M_init_136 (fun H locs hm => ?_)
  obtain ⟨G_331, eG_331⟩ : ∃ z : mG, z = va_up G_320 1011 (some (.inl ((dA 1), 16, .inr (.inl (vp_updL (vp_updL (vp_updL (vp_updL (vp_updL (vp_updL (vp_updL (vp_updL (vp_updL (vp_updL (vp_updL (vp_updL (vp_updL (vp_updL (fun _ => 0) 0 1) 1 1) 2 1) 3 1) 4 1) 5 1) 6 1) 7 1) 8 1) 9 1) 10 1) 11 1) 12 1) 13 1))))) := ⟨_, rfl⟩
  have hm : mS D mCl (mA ad G s.heap.size) s.heap ad_167 G_331 H locs := by rw [eG_331]; exact hm
  have g_332 := (congrFun eG_331 1000).trans ((va_up_ne _ _ (by decide)).trans g_321)
  have g_333 := (congrFun eG_331 1003).trans ((va_up_ne _ _ (by decide)).trans g_322)
  have g_334 := (congrFun eG_331 1004).trans ((va_up_ne _ _ (by decide)).trans g_323)
  have g_335 := (congrFun eG_331 1005).trans ((va_up_ne _ _ (by decide)).trans g_324)
  have g_336 := (congrFun eG_331 1006).trans ((va_up_ne _ _ (by decide)).trans g_325)
  have g_337 := (congrFun eG_331 1007).trans ((va_up_ne _ _ (by decide)).trans g_326)
  have g_338 := (congrFun eG_331 1008).trans ((va_up_ne _ _ (by decide)).trans g_327)
  have g_339 := (congrFun eG_331 1009).trans ((va_up_ne _ _ (by decide)).trans g_328)
  have g_340 := (congrFun eG_331 1010).trans ((va_up_ne _ _ (by decide)).trans g_329)
  have g_341 : G_331 1011 = some (.inl ((dA 1), 16, .inr (.inl (vp_updL (vp_updL (vp_updL (vp_updL (vp_updL (vp_updL (vp_updL (vp_updL (vp_updL (vp_updL (vp_updL (vp_updL (vp_updL (vp_updL (fun _ => 0) 0 1) 1 1) 2 1) 3 1) 4 1) 5 1) 6 1) 7 1) 8 1) 9 1) 10 1) 11 1) 12 1) 13 1)))) := by rw [eG_331, va_up_self]
  refine lv_dup hx hb d_M_init_137 rfl ?_
  refine lv_bipush (v := 14) hx hb d_M_init_138 (by decide) ?_
  refine lv_lconst (v := 1) hx hb d_M_init_140 (by decide) ?_
  refine m_last hx hb hC.1 hm 1011 z_187 1 g_341 rfl (vpc _ _ (by decide)) d_M_init_141 (fun H locs hm => ?_)
  obtain ⟨G_342, eG_342⟩ : ∃ z : mG, z = va_up G_331 1011 (some (.inl ((dA 1), 16, .inr (.inl (vp_updL (vp_updL (vp_updL (vp_updL (vp_updL (vp_updL (vp_updL (vp_updL (vp_updL (vp_updL (vp_updL (vp_updL (vp_updL (vp_updL (vp_updL (fun _ => 0) 0 1) 1 1) 2 1) 3 1) 4 1) 5 1) 6 1) 7 1) 8 1) 9 1) 10 1) 11 1) 12 1) 13 1) 14 1))))) := ⟨_, rfl⟩
  have hm : mS D mCl (mA ad G s.heap.size) s.heap ad_167 G_342 H locs := by rw [eG_342]; exact hm
  have g_343 := (congrFun eG_342 1000).trans ((va_up_ne _ _ (by decide)).trans g_332)
  have g_344 := (congrFun eG_342 1003).trans ((va_up_ne _ _ (by decide)).trans g_333)
  have g_345 := (congrFun eG_342 1004).trans ((va_up_ne _ _ (by decide)).trans g_334)
  have g_346 := (congrFun eG_342 1005).trans ((va_up_ne _ _ (by decide)).trans g_335)
  have g_347 := (congrFun eG_342 1006).trans ((va_up_ne _ _ (by decide)).trans g_336)
  have g_348 := (congrFun eG_342 1007).trans ((va_up_ne _ _ (by decide)).trans g_337)
  have g_349 := (congrFun eG_342 1008).trans ((va_up_ne _ _ (by decide)).trans g_338)
  have g_350 := (congrFun eG_342 1009).trans ((va_up_ne _ _ (by decide)).trans g_339)
  have g_351 := (congrFun eG_342 1010).trans ((va_up_ne _ _ (by decide)).trans g_340)
  have g_352 : G_342 1011 = some (.inl ((dA 1), 16, .inr (.inl (vp_updL (vp_updL (vp_updL (vp_updL (vp_updL (vp_updL (vp_updL (vp_updL (vp_updL (vp_updL (vp_updL (vp_updL (vp_updL (vp_updL (vp_updL (fun _ => 0) 0 1) 1 1) 2 1) 3 1) 4 1) 5 1) 6 1) 7 1) 8 1) 9 1) 10 1) 11 1) 12 1) 13 1) 14 1)))) := by rw [eG_342, va_up_self]
  refine lv_dup hx hb d_M_init_142 rfl ?_
  refine lv_bipush (v := 15) hx hb d_M_init_143 (by decide) ?_
  refine lv_lconst (v := 1) hx hb d_M_init_145 (by decide) ?_
  refine m_last hx hb hC.1 hm 1011 z_187 1 g_352 rfl (vpc _ _ (by decide)) d_M_init_146 (fun H locs hm => ?_)
  obtain ⟨G_353, eG_353⟩ : ∃ z : mG, z = va_up G_342 1011 (some (.inl ((dA 1), 16, .inr (.inl (vp_updL (vp_updL (vp_updL (vp_updL (vp_updL (vp_updL (vp_updL (vp_updL (vp_updL (vp_updL (vp_updL (vp_updL (vp_updL (vp_updL (vp_updL (vp_updL (fun _ => 0) 0 1) 1 1) 2 1) 3 1) 4 1) 5 1) 6 1) 7 1) 8 1) 9 1) 10 1) 11 1) 12 1) 13 1) 14 1) 15 1))))) := ⟨_, rfl⟩
  have hm : mS D mCl (mA ad G s.heap.size) s.heap ad_167 G_353 H locs := by rw [eG_353]; exact hm
  have g_354 := (congrFun eG_353 1000).trans ((va_up_ne _ _ (by decide)).trans g_343)
  have g_355 := (congrFun eG_353 1003).trans ((va_up_ne _ _ (by decide)).trans g_344)
  have g_356 := (congrFun eG_353 1004).trans ((va_up_ne _ _ (by decide)).trans g_345)
  have g_357 := (congrFun eG_353 1005).trans ((va_up_ne _ _ (by decide)).trans g_346)
  have g_358 := (congrFun eG_353 1006).trans ((va_up_ne _ _ (by decide)).trans g_347)
  have g_359 := (congrFun eG_353 1007).trans ((va_up_ne _ _ (by decide)).trans g_348)
  have g_360 := (congrFun eG_353 1008).trans ((va_up_ne _ _ (by decide)).trans g_349)
  have g_361 := (congrFun eG_353 1009).trans ((va_up_ne _ _ (by decide)).trans g_350)
  have g_362 := (congrFun eG_353 1010).trans ((va_up_ne _ _ (by decide)).trans g_351)
  have g_363 : G_353 1011 = some (.inl ((dA 1), 16, .inr (.inl (vp_updL (vp_updL (vp_updL (vp_updL (vp_updL (vp_updL (vp_updL (vp_updL (vp_updL (vp_updL (vp_updL (vp_updL (vp_updL (vp_updL (vp_updL (vp_updL (fun _ => 0) 0 1) 1 1) 2 1) 3 1) 4 1) 5 1) 6 1) 7 1) 8 1) 9 1) 10 1) 11 1) 12 1) 13 1) 14 1) 15 1)))) := by rw [eG_353, va_up_self]
  refine m_putF (v := .ref q_165) (ty := (.array .long)) (C := R_M) (T := T_M) (N := 28) hx hb hT in_M t_M tok_M nm_M hown hC.1 hm 1000 z_178 g_354 rfl 11 (by decide) (hT _ k_601) (fun _ h9 => h9) rfl hin rfl (by decide +kernel) rfl rfl (Nat.le_of_ble_eq_true rfl) d_M_init_147 (fun H locs hm => ?_)
  obtain ⟨G_364, eG_364⟩ : ∃ z : mG, z = va_up G_353 1000 (some (.inr (6, [.int 0, .long 0, .int 0, .ref q_1, .ref q_11, .ref q_24, .ref q_40, .ref q_59, .ref q_81, .ref q_106, .ref q_134, .ref q_165, .null, .null, .null, .null, .null, .int 0, .int 0, .int 0, .int 0, .null, .null, .null, .null, .null, .int 0, .int 0]))) := ⟨_, rfl⟩
  have hm : mS D mCl (mA ad G s.heap.size) s.heap ad_167 G_364 H locs := by rw [eG_364]; exact hm
  have g_365 : G_364 1000 = some (.inr (6, [.int 0, .long 0, .int 0, .ref q_1, .ref q_11, .ref q_24, .ref q_40, .ref q_59, .ref q_81, .ref q_106, .ref q_134, .ref q_165, .null, .null, .null, .null, .null, .int 0, .int 0, .int 0, .int 0, .null, .null, .null, .null, .null, .int 0, .int 0])) := by rw [eG_364, va_up_self]
  have g_366 := (congrFun eG_364 1003).trans ((va_up_ne _ _ (by decide)).trans g_355)
  have g_367 := (congrFun eG_364 1004).trans ((va_up_ne _ _ (by decide)).trans g_356)
  have g_368 := (congrFun eG_364 1005).trans ((va_up_ne _ _ (by decide)).trans g_357)
  have g_369 := (congrFun eG_364 1006).trans ((va_up_ne _ _ (by decide)).trans g_358)
  have g_370 := (congrFun eG_364 1007).trans ((va_up_ne _ _ (by decide)).trans g_359)
  have g_371 := (congrFun eG_364 1008).trans ((va_up_ne _ _ (by decide)).trans g_360)
  have g_372 := (congrFun eG_364 1009).trans ((va_up_ne _ _ (by decide)).trans g_361)
  have g_373 := (congrFun eG_364 1010).trans ((va_up_ne _ _ (by decide)).trans g_362)
  have g_374 := (congrFun eG_364 1011).trans ((va_up_ne _ _ (by decide)).trans g_363)
  refine lv_aload_n hx hb d_M_init_150 rfl (lv_at hl 0 rfl) ?_
  refine lv_iconst (v := 4) hx hb d_M_init_151 (by decide) ?_
  refine m_newa (atype := .long) (ty := .long) (a0 := (4, .inr (.inl (fun _ => 0)))) (cA := (dA 1)) hx hb (hT _ k_675) rfl hm hA 1012 (by rw [eG_364, va_up_ne _ _ (by decide), eG_353, va_up_ne _ _ (by decide), eG_342, va_up_ne _ _ (by decide), eG_331, va_up_ne _ _ (by decide), eG_320, va_up_ne _ _ (by decide), eG_309, va_up_ne _ _ (by decide), eG_298, va_up_ne _ _ (by decide), eG_287, va_up_ne _ _ (by decide), eG_276, va_up_ne _ _ (by decide), eG_265, va_up_ne _ _ (by decide), eG_254, va_up_ne _ _ (by decide), eG_243, va_up_ne _ _ (by decide), eG_232, va_up_ne _ _ (by decide), eG_221, va_up_ne _ _ (by decide), eG_210, va_up_ne _ _ (by decide), eG_199, va_up_ne _ _ (by decide), eG_188, va_up_ne _ _ (by decide), eG_166, va_up_ne _ _ (by decide), eG_155, va_up_ne _ _ (by decide), eG_135, va_up_ne _ _ (by decide), eG_125, va_up_ne _ _ (by decide), eG_107, va_up_ne _ _ (by decide), eG_98, va_up_ne _ _ (by decide), eG_82, va_up_ne _ _ (by decide), eG_74, va_up_ne _ _ (by decide), eG_60, va_up_ne _ _ (by decide), eG_53, va_up_ne _ _ (by decide), eG_41, va_up_ne _ _ (by decide), eG_35, va_up_ne _ _ (by decide), eG_25, va_up_ne _ _ (by decide), eG_20, va_up_ne _ _ (by decide), eG_12, va_up_ne _ _ (by decide), eG_8, va_up_ne _ _ (by decide), eG_2, va_up_ne _ _ (by decide)]; exact hn 1012 (by decide) (by decide)) (show _ from (hC.1.2 1 _ rfl).2) (fun _ => rfl) (by decide) (by decide) (by decide) (Nat.le_of_ble_eq_true rfl) (Nat.le_of_ble_eq_true rfl) d_M_init_152 (fun q_375 H hm => ?_)
  obtain ⟨G_376, eG_376⟩ : ∃ z : mG, z = va_up G_364 1012 (some (.inl ((dA 1), 4, .inr (.inl (fun _ => 0))))) := ⟨_, rfl⟩
  obtain ⟨ad_377, ead_377⟩ : ∃ z : Nat → Nat, z = va_up ad_167 1012 q_375 := ⟨_, rfl⟩
  have hm : mS D mCl (mA ad G s.heap.size) s.heap ad_377 G_376 H locs := by rw [eG_376, ead_377]; exact hm
  have g_378 := (congrFun eG_376 1000).trans ((va_up_ne _ _ (by decide)).trans g_365)
  have g_379 := (congrFun eG_376 1003).trans ((va_up_ne _ _ (by decide)).trans g_366)
  have g_380 := (congrFun eG_376 1004).trans ((va_up_ne _ _ (by decide)).trans g_367)
  have g_381 := (congrFun eG_376 1005).trans ((va_up_ne _ _ (by decide)).trans g_368)
  have g_382 := (congrFun eG_376 1006).trans ((va_up_ne _ _ (by decide)).trans g_369)
  have g_383 := (congrFun eG_376 1007).trans ((va_up_ne _ _ (by decide)).trans g_370)
  have g_384 := (congrFun eG_376 1008).trans ((va_up_ne _ _ (by decide)).trans g_371)
  have g_385 := (congrFun eG_376 1009).trans ((va_up_ne _ _ (by decide)).trans g_372)
  have g_386 := (congrFun eG_376 1010).trans ((va_up_ne _ _ (by decide)).trans g_373)
  have g_387 := (congrFun eG_376 1011).trans ((va_up_ne _ _ (by decide)).trans g_374)
  have g_388 : G_376 1012 = some (.inl ((dA 1), 4, .inr (.inl (fun _ => 0)))) := by rw [eG_376, va_up_self]
  have z_389 : a0 = ad_377 1000 := by rw [ead_377, va_up_ne _ _ (by decide)]; exact z_178
  have z_390 : q_1 = ad_377 1003 := by rw [ead_377, va_up_ne _ _ (by decide)]; exact z_179
  have z_391 : q_11 = ad_377 1004 := by rw [ead_377, va_up_ne _ _ (by decide)]; exact z_180
  have z_392 : q_24 = ad_377 1005 := by rw [ead_377, va_up_ne _ _ (by decide)]; exact z_181
  have z_393 : q_40 = ad_377 1006 := by rw [ead_377, va_up_ne _ _ (by decide)]; exact z_182
  have z_394 : q_59 = ad_377 1007 := by rw [ead_377, va_up_ne _ _ (by decide)]; exact z_183
  have z_395 : q_81 = ad_377 1008 := by rw [ead_377, va_up_ne _ _ (by decide)]; exact z_184
  have z_396 : q_106 = ad_377 1009 := by rw [ead_377, va_up_ne _ _ (by decide)]; exact z_185
  have z_397 : q_134 = ad_377 1010 := by rw [ead_377, va_up_ne _ _ (by decide)]; exact z_186
  have z_398 : q_165 = ad_377 1011 := by rw [ead_377, va_up_ne _ _ (by decide)]; exact z_187
  have z_399 : q_375 = ad_377 1012 := by rw [ead_377, va_up_self]
  refine lv_dup hx hb d_M_init_154 rfl ?_
  refine lv_iconst (v := 0) hx hb d_M_init_155 (by decide) ?_
  refine lv_ldc2 (v := 1000000) hx hb hown (hT _ k_589) d_M_init_156 ?_
  refine m_last hx hb hC.1 hm 1012 z_399 1 g_388 rfl (vpc _ _ (by decide)) d_M_init_159 (fun H locs hm => ?_)
  obtain ⟨G_400, eG_400⟩ : ∃ z : mG, z = va_up G_376 1012 (some (.inl ((dA 1), 4, .inr (.inl (vp_updL (fun _ => 0) 0 1000000))))) := ⟨_, rfl⟩
  have hm : mS D mCl (mA ad G s.heap.size) s.heap ad_377 G_400 H locs := by rw [eG_400]; exact hm
  have g_401 := (congrFun eG_400 1000).trans ((va_up_ne _ _ (by decide)).trans g_378)
  have g_402 := (congrFun eG_400 1003).trans ((va_up_ne _ _ (by decide)).trans g_379)
  have g_403 := (congrFun eG_400 1004).trans ((va_up_ne _ _ (by decide)).trans g_380)
  have g_404 := (congrFun eG_400 1005).trans ((va_up_ne _ _ (by decide)).trans g_381)
  have g_405 := (congrFun eG_400 1006).trans ((va_up_ne _ _ (by decide)).trans g_382)
  have g_406 := (congrFun eG_400 1007).trans ((va_up_ne _ _ (by decide)).trans g_383)
  have g_407 := (congrFun eG_400 1008).trans ((va_up_ne _ _ (by decide)).trans g_384)
  have g_408 := (congrFun eG_400 1009).trans ((va_up_ne _ _ (by decide)).trans g_385)
  have g_409 := (congrFun eG_400 1010).trans ((va_up_ne _ _ (by decide)).trans g_386)
  have g_410 := (congrFun eG_400 1011).trans ((va_up_ne _ _ (by decide)).trans g_387)
  have g_411 : G_400 1012 = some (.inl ((dA 1), 4, .inr (.inl (vp_updL (fun _ => 0) 0 1000000)))) := by rw [eG_400, va_up_self]
  refine lv_dup hx hb d_M_init_160 rfl ?_
  refine lv_iconst (v := 1) hx hb d_M_init_161 (by decide) ?_
  refine lv_ldc2 (v := 1000000) hx hb hown (hT _ k_589) d_M_init_162 ?_
  refine m_last hx hb hC.1 hm 1012 z_399 1 g_411 rfl (vpc _ _ (by decide)) d_M_init_165 (fun H locs hm => ?_)
  obtain ⟨G_412, eG_412⟩ : ∃ z : mG, z = va_up G_400 1012 (some (.inl ((dA 1), 4, .inr (.inl (vp_updL (vp_updL (fun _ => 0) 0 1000000) 1 1000000))))) := ⟨_, rfl⟩
  have hm : mS D mCl (mA ad G s.heap.size) s.heap ad_377 G_412 H locs := by rw [eG_412]; exact hm
  have g_413 := (congrFun eG_412 1000).trans ((va_up_ne _ _ (by decide)).trans g_401)
  have g_414 := (congrFun eG_412 1003).trans ((va_up_ne _ _ (by decide)).trans g_402)
  have g_415 := (congrFun eG_412 1004).trans ((va_up_ne _ _ (by decide)).trans g_403)
  have g_416 := (congrFun eG_412 1005).trans ((va_up_ne _ _ (by decide)).trans g_404)
  have g_417 := (congrFun eG_412 1006).trans ((va_up_ne _ _ (by decide)).trans g_405)
  have g_418 := (congrFun eG_412 1007).trans ((va_up_ne _ _ (by decide)).trans g_406)
  have g_419 := (congrFun eG_412 1008).trans ((va_up_ne _ _ (by decide)).trans g_407)
  have g_420 := (congrFun eG_412 1009).trans ((va_up_ne _ _ (by decide)).trans g_408)
  have g_421 := (congrFun eG_412 1010).trans ((va_up_ne _ _ (by decide)).trans g_409)
  have g_422 := (congrFun eG_412 1011).trans ((va_up_ne _ _ (by decide)).trans g_410)
  have g_423 : G_412 1012 = some (.inl ((dA 1), 4, .inr (.inl (vp_updL (vp_updL (fun _ => 0) 0 1000000) 1 1000000)))) := by rw [eG_412, va_up_self]
  refine lv_dup hx hb d_M_init_166 rfl ?_
  refine lv_iconst (v := 2) hx hb d_M_init_167 (by decide) ?_
  refine lv_ldc2 (v := 1000000) hx hb hown (hT _ k_589) d_M_init_168 ?_
  refine m_last hx hb hC.1 hm 1012 z_399 1 g_423 rfl (vpc _ _ (by decide)) d_M_init_171 (fun H locs hm => ?_)
  obtain ⟨G_424, eG_424⟩ : ∃ z : mG, z = va_up G_412 1012 (some (.inl ((dA 1), 4, .inr (.inl (vp_updL (vp_updL (vp_updL (fun _ => 0) 0 1000000) 1 1000000) 2 1000000))))) := ⟨_, rfl⟩
  have hm : mS D mCl (mA ad G s.heap.size) s.heap ad_377 G_424 H locs := by rw [eG_424]; exact hm
  have g_425 := (congrFun eG_424 1000).trans ((va_up_ne _ _ (by decide)).trans g_413)
  have g_426 := (congrFun eG_424 1003).trans ((va_up_ne _ _ (by decide)).trans g_414)
  have g_427 := (congrFun eG_424 1004).trans ((va_up_ne _ _ (by decide)).trans g_415)
  have g_428 := (congrFun eG_424 1005).trans ((va_up_ne _ _ (by decide)).trans g_416)
  have g_429 := (congrFun eG_424 1006).trans ((va_up_ne _ _ (by decide)).trans g_417)
  have g_430 := (congrFun eG_424 1007).trans ((va_up_ne _ _ (by decide)).trans g_418)
  have g_431 := (congrFun eG_424 1008).trans ((va_up_ne _ _ (by decide)).trans g_419)
  have g_432 := (congrFun eG_424 1009).trans ((va_up_ne _ _ (by decide)).trans g_420)
  have g_433 := (congrFun eG_424 1010).trans ((va_up_ne _ _ (by decide)).trans g_421)
  have g_434 := (congrFun eG_424 1011).trans ((va_up_ne _ _ (by decide)).trans g_422)
  have g_435 : G_424 1012 = some (.inl ((dA 1), 4, .inr (.inl (vp_updL (vp_updL (vp_updL (fun _ => 0) 0 1000000) 1 1000000) 2 1000000)))) := by rw [eG_424, va_up_self]
  refine lv_dup hx hb d_M_init_172 rfl ?_
  refine lv_iconst (v := 3) hx hb d_M_init_173 (by decide) ?_
  refine lv_ldc2 (v := 1000000) hx hb hown (hT _ k_589) d_M_init_174 ?_
  refine m_last hx hb hC.1 hm 1012 z_399 1 g_435 rfl (vpc _ _ (by decide)) d_M_init_177 (fun H locs hm => ?_)
  obtain ⟨G_436, eG_436⟩ : ∃ z : mG, z = va_up G_424 1012 (some (.inl ((dA 1), 4, .inr (.inl (vp_updL (vp_updL (vp_updL (vp_updL (fun _ => 0) 0 1000000) 1 1000000) 2 1000000) 3 1000000))))) := ⟨_, rfl⟩
  have hm : mS D mCl (mA ad G s.heap.size) s.heap ad_377 G_436 H locs := by rw [eG_436]; exact hm
  have g_437 := (congrFun eG_436 1000).trans ((va_up_ne _ _ (by decide)).trans g_425)
  have g_438 := (congrFun eG_436 1003).trans ((va_up_ne _ _ (by decide)).trans g_426)
  have g_439 := (congrFun eG_436 1004).trans ((va_up_ne _ _ (by decide)).trans g_427)
  have g_440 := (congrFun eG_436 1005).trans ((va_up_ne _ _ (by decide)).trans g_428)
  have g_441 := (congrFun eG_436 1006).trans ((va_up_ne _ _ (by decide)).trans g_429)
  have g_442 := (congrFun eG_436 1007).trans ((va_up_ne _ _ (by decide)).trans g_430)
  have g_443 := (congrFun eG_436 1008).trans ((va_up_ne _ _ (by decide)).trans g_431)
  have g_444 := (congrFun eG_436 1009).trans ((va_up_ne _ _ (by decide)).trans g_432)
  have g_445 := (congrFun eG_436 1010).trans ((va_up_ne _ _ (by decide)).trans g_433)
  have g_446 := (congrFun eG_436 1011).trans ((va_up_ne _ _ (by decide)).trans g_434)
  have g_447 : G_436 1012 = some (.inl ((dA 1), 4, .inr (.inl (vp_updL (vp_updL (vp_updL (vp_updL (fun _ => 0) 0 1000000) 1 1000000) 2 1000000) 3 1000000)))) := by rw [eG_436, va_up_self]
  refine m_putF (v := .ref q_375) (ty := (.array .long)) (C := R_M) (T := T_M) (N := 28) hx hb hT in_M t_M tok_M nm_M hown hC.1 hm 1000 z_389 g_437 rfl 12 (by decide) (hT _ k_602) (fun _ h9 => h9) rfl hin rfl (by decide +kernel) rfl rfl (Nat.le_of_ble_eq_true rfl) d_M_init_178 (fun H locs hm => ?_)
  obtain ⟨G_448, eG_448⟩ : ∃ z : mG, z = va_up G_436 1000 (some (.inr (6, [.int 0, .long 0, .int 0, .ref q_1, .ref q_11, .ref q_24, .ref q_40, .ref q_59, .ref q_81, .ref q_106, .ref q_134, .ref q_165, .ref q_375, .null, .null, .null, .null, .int 0, .int 0, .int 0, .int 0, .null, .null, .null, .null, .null, .int 0, .int 0]))) := ⟨_, rfl⟩
  have hm : mS D mCl (mA ad G s.heap.size) s.heap ad_377 G_448 H locs := by rw [eG_448]; exact hm
  have g_449 : G_448 1000 = some (.inr (6, [.int 0, .long 0, .int 0, .ref q_1, .ref q_11, .ref q_24, .ref q_40, .ref q_59, .ref q_81, .ref q_106, .ref q_134, .ref q_165, .ref q_375, .null, .null, .null, .null, .int 0, .int 0, .int 0, .int 0, .null, .null, .null, .null, .null, .int 0, .int 0])) := by rw [eG_448, va_up_self]
  have g_450 := (congrFun eG_448 1003).trans ((va_up_ne _ _ (by decide)).trans g_438)
  have g_451 := (congrFun eG_448 1004).trans ((va_up_ne _ _ (by decide)).trans g_439)
  have g_452 := (congrFun eG_448 1005).trans ((va_up_ne _ _ (by decide)).trans g_440)
  have g_453 := (congrFun eG_448 1006).trans ((va_up_ne _ _ (by decide)).trans g_441)
  have g_454 := (congrFun eG_448 1007).trans ((va_up_ne _ _ (by decide)).trans g_442)
  have g_455 := (congrFun eG_448 1008).trans ((va_up_ne _ _ (by decide)).trans g_443)
  have g_456 := (congrFun eG_448 1009).trans ((va_up_ne _ _ (by decide)).trans g_444)
  have g_457 := (congrFun eG_448 1010).trans ((va_up_ne _ _ (by decide)).trans g_445)
  have g_458 := (congrFun eG_448 1011).trans ((va_up_ne _ _ (by decide)).trans g_446)
  have g_459 := (congrFun eG_448 1012).trans ((va_up_ne _ _ (by decide)).trans g_447)
  refine lv_aload_n hx hb d_M_init_181 rfl (lv_at hl 0 rfl) ?_
  refine lv_sipush (v := 160) hx hb d_M_init_182 (by decide) ?_
  refine m_newa (atype := .int) (ty := .int) (a0 := (160, .inl (fun _ => 0))) (cA := (dA 0)) hx hb (hT _ k_59) rfl hm hA 1013 (by rw [eG_448, va_up_ne _ _ (by decide), eG_436, va_up_ne _ _ (by decide), eG_424, va_up_ne _ _ (by decide), eG_412, va_up_ne _ _ (by decide), eG_400, va_up_ne _ _ (by decide), eG_376, va_up_ne _ _ (by decide), eG_364, va_up_ne _ _ (by decide), eG_353, va_up_ne _ _ (by decide), eG_342, va_up_ne _ _ (by decide), eG_331, va_up_ne _ _ (by decide), eG_320, va_up_ne _ _ (by decide), eG_309, va_up_ne _ _ (by decide), eG_298, va_up_ne _ _ (by decide), eG_287, va_up_ne _ _ (by decide), eG_276, va_up_ne _ _ (by decide), eG_265, va_up_ne _ _ (by decide), eG_254, va_up_ne _ _ (by decide), eG_243, va_up_ne _ _ (by decide), eG_232, va_up_ne _ _ (by decide), eG_221, va_up_ne _ _ (by decide), eG_210, va_up_ne _ _ (by decide), eG_199, va_up_ne _ _ (by decide), eG_188, va_up_ne _ _ (by decide), eG_166, va_up_ne _ _ (by decide), eG_155, va_up_ne _ _ (by decide), eG_135, va_up_ne _ _ (by decide), eG_125, va_up_ne _ _ (by decide), eG_107, va_up_ne _ _ (by decide), eG_98, va_up_ne _ _ (by decide), eG_82, va_up_ne _ _ (by decide), eG_74, va_up_ne _ _ (by decide), eG_60, va_up_ne _ _ (by decide), eG_53, va_up_ne _ _ (by decide), eG_41, va_up_ne _ _ (by decide), eG_35, va_up_ne _ _ (by decide), eG_25, va_up_ne _ _ (by decide), eG_20, va_up_ne _ _ (by decide), eG_12, va_up_ne _ _ (by decide), eG_8, va_up_ne _ _ (by decide), eG_2, va_up_ne _ _ (by decide)]; exact hn 1013 (by decide) (by decide)) (show _ from (hC.1.2 0 _ rfl).2) (fun _ => rfl) (by decide) (by decide) (by decide) (Nat.le_of_ble_eq_true rfl) (Nat.le_of_ble_eq_true rfl) d_M_init_185 (fun q_460 H hm => ?_)
  obtain ⟨G_461, eG_461⟩ : ∃ z : mG, z = va_up G_448 1013 (some (.inl ((dA 0), 160, .inl (fun _ => 0)))) := ⟨_, rfl⟩
  obtain ⟨ad_462, ead_462⟩ : ∃ z : Nat → Nat, z = va_up ad_377 1013 q_460 := ⟨_, rfl⟩
  have hm : mS D mCl (mA ad G s.heap.size) s.heap ad_462 G_461 H locs := by rw [eG_461, ead_462]; exact hm
  have g_463 := (congrFun eG_461 1000).trans ((va_up_ne _ _ (by decide)).trans g_449)
  have g_464 := (congrFun eG_461 1003).trans ((va_up_ne _ _ (by decide)).trans g_450)
  have g_465 := (congrFun eG_461 1004).trans ((va_up_ne _ _ (by decide)).trans g_451)
  have g_466 := (congrFun eG_461 1005).trans ((va_up_ne _ _ (by decide)).trans g_452)
  have g_467 := (congrFun eG_461 1006).trans ((va_up_ne _ _ (by decide)).trans g_453)
  have g_468 := (congrFun eG_461 1007).trans ((va_up_ne _ _ (by decide)).trans g_454)
  have g_469 := (congrFun eG_461 1008).trans ((va_up_ne _ _ (by decide)).trans g_455)
  have g_470 := (congrFun eG_461 1009).trans ((va_up_ne _ _ (by decide)).trans g_456)
  have g_471 := (congrFun eG_461 1010).trans ((va_up_ne _ _ (by decide)).trans g_457)
  have g_472 := (congrFun eG_461 1011).trans ((va_up_ne _ _ (by decide)).trans g_458)
  have g_473 := (congrFun eG_461 1012).trans ((va_up_ne _ _ (by decide)).trans g_459)
  have g_474 : G_461 1013 = some (.inl ((dA 0), 160, .inl (fun _ => 0))) := by rw [eG_461, va_up_self]
  have z_475 : a0 = ad_462 1000 := by rw [ead_462, va_up_ne _ _ (by decide)]; exact z_389
  have z_476 : q_1 = ad_462 1003 := by rw [ead_462, va_up_ne _ _ (by decide)]; exact z_390
  have z_477 : q_11 = ad_462 1004 := by rw [ead_462, va_up_ne _ _ (by decide)]; exact z_391
  have z_478 : q_24 = ad_462 1005 := by rw [ead_462, va_up_ne _ _ (by decide)]; exact z_392
  have z_479 : q_40 = ad_462 1006 := by rw [ead_462, va_up_ne _ _ (by decide)]; exact z_393
  have z_480 : q_59 = ad_462 1007 := by rw [ead_462, va_up_ne _ _ (by decide)]; exact z_394
  have z_481 : q_81 = ad_462 1008 := by rw [ead_462, va_up_ne _ _ (by decide)]; exact z_395
  have z_482 : q_106 = ad_462 1009 := by rw [ead_462, va_up_ne _ _ (by decide)]; exact z_396
  have z_483 : q_134 = ad_462 1010 := by rw [ead_462, va_up_ne _ _ (by decide)]; exact z_397
  have z_484 : q_165 = ad_462 1011 := by rw [ead_462, va_up_ne _ _ (by decide)]; exact z_398
  have z_485 : q_375 = ad_462 1012 := by rw [ead_462, va_up_ne _ _ (by decide)]; exact z_399
  have z_486 : q_460 = ad_462 1013 := by rw [ead_462, va_up_self]
  refine m_putF (v := .ref q_460) (ty := (.array .int)) (C := R_M) (T := T_M) (N := 28) hx hb hT in_M t_M tok_M nm_M hown hC.1 hm 1000 z_475 g_463 rfl 13 (by decide) (hT _ k_603) (fun _ h9 => h9) rfl hin rfl (by decide +kernel) rfl rfl (Nat.le_of_ble_eq_true rfl) d_M_init_187 (fun H locs hm => ?_)
  obtain ⟨G_487, eG_487⟩ : ∃ z : mG, z = va_up G_461 1000 (some (.inr (6, [.int 0, .long 0, .int 0, .ref q_1, .ref q_11, .ref q_24, .ref q_40, .ref q_59, .ref q_81, .ref q_106, .ref q_134, .ref q_165, .ref q_375, .ref q_460, .null, .null, .null, .int 0, .int 0, .int 0, .int 0, .null, .null, .null, .null, .null, .int 0, .int 0]))) := ⟨_, rfl⟩
  have hm : mS D mCl (mA ad G s.heap.size) s.heap ad_462 G_487 H locs := by rw [eG_487]; exact hm
  have g_488 : G_487 1000 = some (.inr (6, [.int 0, .long 0, .int 0, .ref q_1, .ref q_11, .ref q_24, .ref q_40, .ref q_59, .ref q_81, .ref q_106, .ref q_134, .ref q_165, .ref q_375, .ref q_460, .null, .null, .null, .int 0, .int 0, .int 0, .int 0, .null, .null, .null, .null, .null, .int 0, .int 0])) := by rw [eG_487, va_up_self]
  have g_489 := (congrFun eG_487 1003).trans ((va_up_ne _ _ (by decide)).trans g_464)
  have g_490 := (congrFun eG_487 1004).trans ((va_up_ne _ _ (by decide)).trans g_465)
  have g_491 := (congrFun eG_487 1005).trans ((va_up_ne _ _ (by decide)).trans g_466)
  have g_492 := (congrFun eG_487 1006).trans ((va_up_ne _ _ (by decide)).trans g_467)
  have g_493 := (congrFun eG_487 1007).trans ((va_up_ne _ _ (by decide)).trans g_468)
  have g_494 := (congrFun eG_487 1008).trans ((va_up_ne _ _ (by decide)).trans g_469)
  have g_495 := (congrFun eG_487 1009).trans ((va_up_ne _ _ (by decide)).trans g_470)
  have g_496 := (congrFun eG_487 1010).trans ((va_up_ne _ _ (by decide)).trans g_471)
  have g_497 := (congrFun eG_487 1011).trans ((va_up_ne _ _ (by decide)).trans g_472)
  have g_498 := (congrFun eG_487 1012).trans ((va_up_ne _ _ (by decide)).trans g_473)
  have g_499 := (congrFun eG_487 1013).trans ((va_up_ne _ _ (by decide)).trans g_474)
  refine lv_aload_n hx hb d_M_init_190 rfl (lv_at hl 0 rfl) ?_
  refine lv_iconst (v := 4) hx hb d_M_init_191 (by decide) ?_
  refine m_newa (atype := .int) (ty := .int) (a0 := (4, .inl (fun _ => 0))) (cA := (dA 0)) hx hb (hT _ k_59) rfl hm hA 1014 (by rw [eG_487, va_up_ne _ _ (by decide), eG_461, va_up_ne _ _ (by decide), eG_448, va_up_ne _ _ (by decide), eG_436, va_up_ne _ _ (by decide), eG_424, va_up_ne _ _ (by decide), eG_412, va_up_ne _ _ (by decide), eG_400, va_up_ne _ _ (by decide), eG_376, va_up_ne _ _ (by decide), eG_364, va_up_ne _ _ (by decide), eG_353, va_up_ne _ _ (by decide), eG_342, va_up_ne _ _ (by decide), eG_331, va_up_ne _ _ (by decide), eG_320, va_up_ne _ _ (by decide), eG_309, va_up_ne _ _ (by decide), eG_298, va_up_ne _ _ (by decide), eG_287, va_up_ne _ _ (by decide), eG_276, va_up_ne _ _ (by decide), eG_265, va_up_ne _ _ (by decide), eG_254, va_up_ne _ _ (by decide), eG_243, va_up_ne _ _ (by decide), eG_232, va_up_ne _ _ (by decide), eG_221, va_up_ne _ _ (by decide), eG_210, va_up_ne _ _ (by decide), eG_199, va_up_ne _ _ (by decide), eG_188, va_up_ne _ _ (by decide), eG_166, va_up_ne _ _ (by decide), eG_155, va_up_ne _ _ (by decide), eG_135, va_up_ne _ _ (by decide), eG_125, va_up_ne _ _ (by decide), eG_107, va_up_ne _ _ (by decide), eG_98, va_up_ne _ _ (by decide), eG_82, va_up_ne _ _ (by decide), eG_74, va_up_ne _ _ (by decide), eG_60, va_up_ne _ _ (by decide), eG_53, va_up_ne _ _ (by decide), eG_41, va_up_ne _ _ (by decide), eG_35, va_up_ne _ _ (by decide), eG_25, va_up_ne _ _ (by decide), eG_20, va_up_ne _ _ (by decide), eG_12, va_up_ne _ _ (by decide), eG_8, va_up_ne _ _ (by decide), eG_2, va_up_ne _ _ (by decide)]; exact hn 1014 (by decide) (by decide)) (show _ from (hC.1.2 0 _ rfl).2) (fun _ => rfl) (by decide) (by decide) (by decide) (Nat.le_of_ble_eq_true rfl) (Nat.le_of_ble_eq_true rfl) d_M_init_192 (fun q_500 H hm => ?_)
  obtain ⟨G_501, eG_501⟩ : ∃ z : mG, z = va_up G_487 1014 (some (.inl ((dA 0), 4, .inl (fun _ => 0)))) := ⟨_, rfl⟩
  obtain ⟨ad_502, ead_502⟩ : ∃ z : Nat → Nat, z = va_up ad_462 1014 q_500 := ⟨_, rfl⟩
  have hm : mS D mCl (mA ad G s.heap.size) s.heap ad_502 G_501 H locs := by rw [eG_501, ead_502]; exact hm
  have g_503 := (congrFun eG_501 1000).trans ((va_up_ne _ _ (by decide)).trans g_488)
  have g_504 := (congrFun eG_501 1003).trans ((va_up_ne _ _ (by decide)).trans g_489)
  have g_505 := (congrFun eG_501 1004).trans ((va_up_ne _ _ (by decide)).trans g_490)
  have g_506 := (congrFun eG_501 1005).trans ((va_up_ne _ _ (by decide)).trans g_491)
  have g_507 := (congrFun eG_501 1006).trans ((va_up_ne _ _ (by decide)).trans g_492)
  have g_508 := (congrFun eG_501 1007).trans ((va_up_ne _ _ (by decide)).trans g_493)
  have g_509 := (congrFun eG_501 1008).trans ((va_up_ne _ _ (by decide)).trans g_494)
  have g_510 := (congrFun eG_501 1009).trans ((va_up_ne _ _ (by decide)).trans g_495)
  have g_511 := (congrFun eG_501 1010).trans ((va_up_ne _ _ (by decide)).trans g_496)
  have g_512 := (congrFun eG_501 1011).trans ((va_up_ne _ _ (by decide)).trans g_497)
  have g_513 := (congrFun eG_501 1012).trans ((va_up_ne _ _ (by decide)).trans g_498)
  have g_514 := (congrFun eG_501 1013).trans ((va_up_ne _ _ (by decide)).trans g_499)
  have g_515 : G_501 1014 = some (.inl ((dA 0), 4, .inl (fun _ => 0))) := by rw [eG_501, va_up_self]
  have z_516 : a0 = ad_502 1000 := by rw [ead_502, va_up_ne _ _ (by decide)]; exact z_475
  have z_517 : q_1 = ad_502 1003 := by rw [ead_502, va_up_ne _ _ (by decide)]; exact z_476
  have z_518 : q_11 = ad_502 1004 := by rw [ead_502, va_up_ne _ _ (by decide)]; exact z_477
  have z_519 : q_24 = ad_502 1005 := by rw [ead_502, va_up_ne _ _ (by decide)]; exact z_478
  have z_520 : q_40 = ad_502 1006 := by rw [ead_502, va_up_ne _ _ (by decide)]; exact z_479
  have z_521 : q_59 = ad_502 1007 := by rw [ead_502, va_up_ne _ _ (by decide)]; exact z_480
  have z_522 : q_81 = ad_502 1008 := by rw [ead_502, va_up_ne _ _ (by decide)]; exact z_481
  have z_523 : q_106 = ad_502 1009 := by rw [ead_502, va_up_ne _ _ (by decide)]; exact z_482
  have z_524 : q_134 = ad_502 1010 := by rw [ead_502, va_up_ne _ _ (by decide)]; exact z_483
  have z_525 : q_165 = ad_502 1011 := by rw [ead_502, va_up_ne _ _ (by decide)]; exact z_484
  have z_526 : q_375 = ad_502 1012 := by rw [ead_502, va_up_ne _ _ (by decide)]; exact z_485
  have z_527 : q_460 = ad_502 1013 := by rw [ead_502, va_up_ne _ _ (by decide)]; exact z_486
  have z_528 : q_500 = ad_502 1014 := by rw [ead_502, va_up_self]
  refine m_putF (v := .ref q_500) (ty := (.array .int)) (C := R_M) (T := T_M) (N := 28) hx hb hT in_M t_M tok_M nm_M hown hC.1 hm 1000 z_516 g_503 rfl 14 (by decide) (hT _ k_604) (fun _ h9 => h9) rfl hin rfl (by decide +kernel) rfl rfl (Nat.le_of_ble_eq_true rfl) d_M_init_194 (fun H locs hm => ?_)
  obtain ⟨G_529, eG_529⟩ : ∃ z : mG, z = va_up G_501 1000 (some (.inr (6, [.int 0, .long 0, .int 0, .ref q_1, .ref q_11, .ref q_24, .ref q_40, .ref q_59, .ref q_81, .ref q_106, .ref q_134, .ref q_165, .ref q_375, .ref q_460, .ref q_500, .null, .null, .int 0, .int 0, .int 0, .int 0, .null, .null, .null, .null, .null, .int 0, .int 0]))) := ⟨_, rfl⟩
  have hm : mS D mCl (mA ad G s.heap.size) s.heap ad_502 G_529 H locs := by rw [eG_529]; exact hm
  have g_530 : G_529 1000 = some (.inr (6, [.int 0, .long 0, .int 0, .ref q_1, .ref q_11, .ref q_24, .ref q_40, .ref q_59, .ref q_81, .ref q_106, .ref q_134, .ref q_165, .ref q_375, .ref q_460, .ref q_500, .null, .null, .int 0, .int 0, .int 0, .int 0, .null, .null, .null, .null, .null, .int 0, .int 0])) := by rw [eG_529, va_up_self]
  have g_531 := (congrFun eG_529 1003).trans ((va_up_ne _ _ (by decide)).trans g_504)
  have g_532 := (congrFun eG_529 1004).trans ((va_up_ne _ _ (by decide)).trans g_505)
  have g_533 := (congrFun eG_529 1005).trans ((va_up_ne _ _ (by decide)).trans g_506)
  have g_534 := (congrFun eG_529 1006).trans ((va_up_ne _ _ (by decide)).trans g_507)
  have g_535 := (congrFun eG_529 1007).trans ((va_up_ne _ _ (by decide)).trans g_508)
  have g_536 := (congrFun eG_529 1008).trans ((va_up_ne _ _ (by decide)).trans g_509)
  have g_537 := (congrFun eG_529 1009).trans ((va_up_ne _ _ (by decide)).trans g_510)
  have g_538 := (congrFun eG_529 1010).trans ((va_up_ne _ _ (by decide)).trans g_511)
  have g_539 := (congrFun eG_529 1011).trans ((va_up_ne _ _ (by decide)).trans g_512)
  have g_540 := (congrFun eG_529 1012).trans ((va_up_ne _ _ (by decide)).trans g_513)
  have g_541 := (congrFun eG_529 1013).trans ((va_up_ne _ _ (by decide)).trans g_514)
  have g_542 := (congrFun eG_529 1014).trans ((va_up_ne _ _ (by decide)).trans g_515)
  refine lv_aload_n hx hb d_M_init_197 rfl (lv_at hl 0 rfl) ?_
  refine lv_iconst (v := 4) hx hb d_M_init_198 (by decide) ?_
  refine m_newa (atype := .long) (ty := .long) (a0 := (4, .inr (.inl (fun _ => 0)))) (cA := (dA 1)) hx hb (hT _ k_675) rfl hm hA 1015 (by rw [eG_529, va_up_ne _ _ (by decide), eG_501, va_up_ne _ _ (by decide), eG_487, va_up_ne _ _ (by decide), eG_461, va_up_ne _ _ (by decide), eG_448, va_up_ne _ _ (by decide), eG_436, va_up_ne _ _ (by decide), eG_424, va_up_ne _ _ (by decide), eG_412, va_up_ne _ _ (by decide), eG_400, va_up_ne _ _ (by decide), eG_376, va_up_ne _ _ (by decide), eG_364, va_up_ne _ _ (by decide), eG_353, va_up_ne _ _ (by decide), eG_342, va_up_ne _ _ (by decide), eG_331, va_up_ne _ _ (by decide), eG_320, va_up_ne _ _ (by decide), eG_309, va_up_ne _ _ (by decide), eG_298, va_up_ne _ _ (by decide), eG_287, va_up_ne _ _ (by decide), eG_276, va_up_ne _ _ (by decide), eG_265, va_up_ne _ _ (by decide), eG_254, va_up_ne _ _ (by decide), eG_243, va_up_ne _ _ (by decide), eG_232, va_up_ne _ _ (by decide), eG_221, va_up_ne _ _ (by decide), eG_210, va_up_ne _ _ (by decide), eG_199, va_up_ne _ _ (by decide), eG_188, va_up_ne _ _ (by decide), eG_166, va_up_ne _ _ (by decide), eG_155, va_up_ne _ _ (by decide), eG_135, va_up_ne _ _ (by decide), eG_125, va_up_ne _ _ (by decide), eG_107, va_up_ne _ _ (by decide), eG_98, va_up_ne _ _ (by decide), eG_82, va_up_ne _ _ (by decide), eG_74, va_up_ne _ _ (by decide), eG_60, va_up_ne _ _ (by decide), eG_53, va_up_ne _ _ (by decide), eG_41, va_up_ne _ _ (by decide), eG_35, va_up_ne _ _ (by decide), eG_25, va_up_ne _ _ (by decide), eG_20, va_up_ne _ _ (by decide), eG_12, va_up_ne _ _ (by decide), eG_8, va_up_ne _ _ (by decide), eG_2, va_up_ne _ _ (by decide)]; exact hn 1015 (by decide) (by decide)) (show _ from (hC.1.2 1 _ rfl).2) (fun _ => rfl) (by decide) (by decide) (by decide) (Nat.le_of_ble_eq_true rfl) (Nat.le_of_ble_eq_true rfl) d_M_init_199 (fun q_543 H hm => ?_)
  obtain ⟨G_544, eG_544⟩ : ∃ z : mG, z = va_up G_529 1015 (some (.inl ((dA 1), 4, .inr (.inl (fun _ => 0))))) := ⟨_, rfl⟩
  obtain ⟨ad_545, ead_545⟩ : ∃ z : Nat → Nat, z = va_up ad_502 1015 q_543 := ⟨_, rfl⟩
  have hm : mS D mCl (mA ad G s.heap.size) s.heap ad_545 G_544 H locs := by rw [eG_544, ead_545]; exact hm
  have g_546 := (congrFun eG_544 1000).trans ((va_up_ne _ _ (by decide)).trans g_530)
  have g_547 := (congrFun eG_544 1003).trans ((va_up_ne _ _ (by decide)).trans g_531)
  have g_548 := (congrFun eG_544 1004).trans ((va_up_ne _ _ (by decide)).trans g_532)
  have g_549 := (congrFun eG_544 1005).trans ((va_up_ne _ _ (by decide)).trans g_533)
  have g_550 := (congrFun eG_544 1006).trans ((va_up_ne _ _ (by decide)).trans g_534)
  have g_551 := (congrFun eG_544 1007).trans ((va_up_ne _ _ (by decide)).trans g_535)
  have g_552 := (congrFun eG_544 1008).trans ((va_up_ne _ _ (by decide)).trans g_536)
  have g_553 := (congrFun eG_544 1009).trans ((va_up_ne _ _ (by decide)).trans g_537)
  have g_554 := (congrFun eG_544 1010).trans ((va_up_ne _ _ (by decide)).trans g_538)
  have g_555 := (congrFun eG_544 1011).trans ((va_up_ne _ _ (by decide)).trans g_539)
  have g_556 := (congrFun eG_544 1012).trans ((va_up_ne _ _ (by decide)).trans g_540)
  have g_557 := (congrFun eG_544 1013).trans ((va_up_ne _ _ (by decide)).trans g_541)
  have g_558 := (congrFun eG_544 1014).trans ((va_up_ne _ _ (by decide)).trans g_542)
  have g_559 : G_544 1015 = some (.inl ((dA 1), 4, .inr (.inl (fun _ => 0)))) := by rw [eG_544, va_up_self]
  have z_560 : a0 = ad_545 1000 := by rw [ead_545, va_up_ne _ _ (by decide)]; exact z_516
  have z_561 : q_1 = ad_545 1003 := by rw [ead_545, va_up_ne _ _ (by decide)]; exact z_517
  have z_562 : q_11 = ad_545 1004 := by rw [ead_545, va_up_ne _ _ (by decide)]; exact z_518
  have z_563 : q_24 = ad_545 1005 := by rw [ead_545, va_up_ne _ _ (by decide)]; exact z_519
  have z_564 : q_40 = ad_545 1006 := by rw [ead_545, va_up_ne _ _ (by decide)]; exact z_520
  have z_565 : q_59 = ad_545 1007 := by rw [ead_545, va_up_ne _ _ (by decide)]; exact z_521
  have z_566 : q_81 = ad_545 1008 := by rw [ead_545, va_up_ne _ _ (by decide)]; exact z_522
  have z_567 : q_106 = ad_545 1009 := by rw [ead_545, va_up_ne _ _ (by decide)]; exact z_523
  have z_568 : q_134 = ad_545 1010 := by rw [ead_545, va_up_ne _ _ (by decide)]; exact z_524
  have z_569 : q_165 = ad_545 1011 := by rw [ead_545, va_up_ne _ _ (by decide)]; exact z_525
  have z_570 : q_375 = ad_545 1012 := by rw [ead_545, va_up_ne _ _ (by decide)]; exact z_526
  have z_571 : q_460 = ad_545 1013 := by rw [ead_545, va_up_ne _ _ (by decide)]; exact z_527
  have z_572 : q_500 = ad_545 1014 := by rw [ead_545, va_up_ne _ _ (by decide)]; exact z_528
  have z_573 : q_543 = ad_545 1015 := by rw [ead_545, va_up_self]
  refine lv_dup hx hb d_M_init_201 rfl ?_
  refine lv_iconst (v := 0) hx hb d_M_init_202 (by decide) ?_
  refine lv_lconst (v := 1) hx hb d_M_init_203 (by decide) ?_
  refine m_last hx hb hC.1 hm 1015 z_573 1 g_559 rfl (vpc _ _ (by decide)) d_M_init_204 (fun H locs hm => ?_)
  obtain ⟨G_574, eG_574⟩ : ∃ z : mG, z = va_up G_544 1015 (some (.inl ((dA 1), 4, .inr (.inl (vp_updL (fun _ => 0) 0 1))))) := ⟨_, rfl⟩
  have hm : mS D mCl (mA ad G s.heap.size) s.heap ad_545 G_574 H locs := by rw [eG_574]; exact hm
  have g_575 := (congrFun eG_574 1000).trans ((va_up_ne _ _ (by decide)).trans g_546)
  have g_576 := (congrFun eG_574 1003).trans ((va_up_ne _ _ (by decide)).trans g_547)
  have g_577 := (congrFun eG_574 1004).trans ((va_up_ne _ _ (by decide)).trans g_548)
  have g_578 := (congrFun eG_574 1005).trans ((va_up_ne _ _ (by decide)).trans g_549)
  have g_579 := (congrFun eG_574 1006).trans ((va_up_ne _ _ (by decide)).trans g_550)
  have g_580 := (congrFun eG_574 1007).trans ((va_up_ne _ _ (by decide)).trans g_551)
  have g_581 := (congrFun eG_574 1008).trans ((va_up_ne _ _ (by decide)).trans g_552)
  have g_582 := (congrFun eG_574 1009).trans ((va_up_ne _ _ (by decide)).trans g_553)
  have g_583 := (congrFun eG_574 1010).trans ((va_up_ne _ _ (by decide)).trans g_554)
  have g_584 := (congrFun eG_574 1011).trans ((va_up_ne _ _ (by decide)).trans g_555)
  have g_585 := (congrFun eG_574 1012).trans ((va_up_ne _ _ (by decide)).trans g_556)
  have g_586 := (congrFun eG_574 1013).trans ((va_up_ne _ _ (by decide)).trans g_557)
  have g_587 := (congrFun eG_574 1014).trans ((va_up_ne _ _ (by decide)).trans g_558)
  have g_588 : G_574 1015 = some (.inl ((dA 1), 4, .inr (.inl (vp_updL (fun _ => 0) 0 1)))) := by rw [eG_574, va_up_self]
  refine lv_dup hx hb d_M_init_205 rfl ?_
  refine lv_iconst (v := 1) hx hb d_M_init_206 (by decide) ?_
  refine lv_lconst (v := 1) hx hb d_M_init_207 (by decide) ?_
  refine m_last hx hb hC.1 hm 1015 z_573 1 g_588 rfl (vpc _ _ (by decide)) d_M_init_208 (fun H locs hm => ?_)
  obtain ⟨G_589, eG_589⟩ : ∃ z : mG, z = va_up G_574 1015 (some (.inl ((dA 1), 4, .inr (.inl (vp_updL (vp_updL (fun _ => 0) 0 1) 1 1))))) := ⟨_, rfl⟩
  have hm : mS D mCl (mA ad G s.heap.size) s.heap ad_545 G_589 H locs := by rw [eG_589]; exact hm
  have g_590 := (congrFun eG_589 1000).trans ((va_up_ne _ _ (by decide)).trans g_575)
  have g_591 := (congrFun eG_589 1003).trans ((va_up_ne _ _ (by decide)).trans g_576)
  have g_592 := (congrFun eG_589 1004).trans ((va_up_ne _ _ (by decide)).trans g_577)
  have g_593 := (congrFun eG_589 1005).trans ((va_up_ne _ _ (by decide)).trans g_578)
  have g_594 := (congrFun eG_589 1006).trans ((va_up_ne _ _ (by decide)).trans g_579)
  have g_595 := (congrFun eG_589 1007).trans ((va_up_ne _ _ (by decide)).trans g_580)
  have g_596 := (congrFun eG_589 1008).trans ((va_up_ne _ _ (by decide)).trans g_581)
  have g_597 := (congrFun eG_589 1009).trans ((va_up_ne _ _ (by decide)).trans g_582)
  have g_598 := (congrFun eG_589 1010).trans ((va_up_ne _ _ (by decide)).trans g_583)
  have g_599 := (congrFun eG_589 1011).trans ((va_up_ne _ _ (by decide)).trans g_584)
  have g_600 := (congrFun eG_589 1012).trans ((va_up_ne _ _ (by decide)).trans g_585)
  have g_601 := (congrFun eG_589 1013).trans ((va_up_ne _ _ (by decide)).trans g_586)
  have g_602 := (congrFun eG_589 1014).trans ((va_up_ne _ _ (by decide)).trans g_587)
  have g_603 : G_589 1015 = some (.inl ((dA 1), 4, .inr (.inl (vp_updL (vp_updL (fun _ => 0) 0 1) 1 1)))) := by rw [eG_589, va_up_self]
  refine lv_dup hx hb d_M_init_209 rfl ?_
  refine lv_iconst (v := 2) hx hb d_M_init_210 (by decide) ?_
  refine lv_lconst (v := 1) hx hb d_M_init_211 (by decide) ?_
  refine m_last hx hb hC.1 hm 1015 z_573 1 g_603 rfl (vpc _ _ (by decide)) d_M_init_212 (fun H locs hm => ?_)
  obtain ⟨G_604, eG_604⟩ : ∃ z : mG, z = va_up G_589 1015 (some (.inl ((dA 1), 4, .inr (.inl (vp_updL (vp_updL (vp_updL (fun _ => 0) 0 1) 1 1) 2 1))))) := ⟨_, rfl⟩
  have hm : mS D mCl (mA ad G s.heap.size) s.heap ad_545 G_604 H locs := by rw [eG_604]; exact hm
  have g_605 := (congrFun eG_604 1000).trans ((va_up_ne _ _ (by decide)).trans g_590)
  have g_606 := (congrFun eG_604 1003).trans ((va_up_ne _ _ (by decide)).trans g_591)
  have g_607 := (congrFun eG_604 1004).trans ((va_up_ne _ _ (by decide)).trans g_592)
  have g_608 := (congrFun eG_604 1005).trans ((va_up_ne _ _ (by decide)).trans g_593)
  have g_609 := (congrFun eG_604 1006).trans ((va_up_ne _ _ (by decide)).trans g_594)
  have g_610 := (congrFun eG_604 1007).trans ((va_up_ne _ _ (by decide)).trans g_595)
  have g_611 := (congrFun eG_604 1008).trans ((va_up_ne _ _ (by decide)).trans g_596)
  have g_612 := (congrFun eG_604 1009).trans ((va_up_ne _ _ (by decide)).trans g_597)
  have g_613 := (congrFun eG_604 1010).trans ((va_up_ne _ _ (by decide)).trans g_598)
  have g_614 := (congrFun eG_604 1011).trans ((va_up_ne _ _ (by decide)).trans g_599)
  have g_615 := (congrFun eG_604 1012).trans ((va_up_ne _ _ (by decide)).trans g_600)
  have g_616 := (congrFun eG_604 1013).trans ((va_up_ne _ _ (by decide)).trans g_601)
  have g_617 := (congrFun eG_604 1014).trans ((va_up_ne _ _ (by decide)).trans g_602)
  have g_618 : G_604 1015 = some (.inl ((dA 1), 4, .inr (.inl (vp_updL (vp_updL (vp_updL (fun _ => 0) 0 1) 1 1) 2 1)))) := by rw [eG_604, va_up_self]
  refine lv_dup hx hb d_M_init_213 rfl ?_
  refine lv_iconst (v := 3) hx hb d_M_init_214 (by decide) ?_
  refine lv_lconst (v := 1) hx hb d_M_init_215 (by decide) ?_
  refine m_last hx hb hC.1 hm 1015 z_573 1 g_618 rfl (vpc _ _ (by decide)) d_M_init_216 (fun H locs hm => ?_)
  obtain ⟨G_619, eG_619⟩ : ∃ z : mG, z = va_up G_604 1015 (some (.inl ((dA 1), 4, .inr (.inl (vp_updL (vp_updL (vp_updL (vp_updL (fun _ => 0) 0 1) 1 1) 2 1) 3 1))))) := ⟨_, rfl⟩
  have hm : mS D mCl (mA ad G s.heap.size) s.heap ad_545 G_619 H locs := by rw [eG_619]; exact hm
  have g_620 := (congrFun eG_619 1000).trans ((va_up_ne _ _ (by decide)).trans g_605)
  have g_621 := (congrFun eG_619 1003).trans ((va_up_ne _ _ (by decide)).trans g_606)
  have g_622 := (congrFun eG_619 1004).trans ((va_up_ne _ _ (by decide)).trans g_607)
  have g_623 := (congrFun eG_619 1005).trans ((va_up_ne _ _ (by decide)).trans g_608)
  have g_624 := (congrFun eG_619 1006).trans ((va_up_ne _ _ (by decide)).trans g_609)
  have g_625 := (congrFun eG_619 1007).trans ((va_up_ne _ _ (by decide)).trans g_610)
  have g_626 := (congrFun eG_619 1008).trans ((va_up_ne _ _ (by decide)).trans g_611)
  have g_627 := (congrFun eG_619 1009).trans ((va_up_ne _ _ (by decide)).trans g_612)
  have g_628 := (congrFun eG_619 1010).trans ((va_up_ne _ _ (by decide)).trans g_613)
  have g_629 := (congrFun eG_619 1011).trans ((va_up_ne _ _ (by decide)).trans g_614)
  have g_630 := (congrFun eG_619 1012).trans ((va_up_ne _ _ (by decide)).trans g_615)
  have g_631 := (congrFun eG_619 1013).trans ((va_up_ne _ _ (by decide)).trans g_616)
  have g_632 := (congrFun eG_619 1014).trans ((va_up_ne _ _ (by decide)).trans g_617)
  have g_633 : G_619 1015 = some (.inl ((dA 1), 4, .inr (.inl (vp_updL (vp_updL (vp_updL (vp_updL (fun _ => 0) 0 1) 1 1) 2 1) 3 1)))) := by rw [eG_619, va_up_self]
  refine m_putF (v := .ref q_543) (ty := (.array .long)) (C := R_M) (T := T_M) (N := 28) hx hb hT in_M t_M tok_M nm_M hown hC.1 hm 1000 z_560 g_620 rfl 15 (by decide) (hT _ k_605) (fun _ h9 => h9) rfl hin rfl (by decide +kernel) rfl rfl (Nat.le_of_ble_eq_true rfl) d_M_init_217 (fun H locs hm => ?_)
  obtain ⟨G_634, eG_634⟩ : ∃ z : mG, z = va_up G_619 1000 (some (.inr (6, [.int 0, .long 0, .int 0, .ref q_1, .ref q_11, .ref q_24, .ref q_40, .ref q_59, .ref q_81, .ref q_106, .ref q_134, .ref q_165, .ref q_375, .ref q_460, .ref q_500, .ref q_543, .null, .int 0, .int 0, .int 0, .int 0, .null, .null, .null, .null, .null, .int 0, .int 0]))) := ⟨_, rfl⟩
  have hm : mS D mCl (mA ad G s.heap.size) s.heap ad_545 G_634 H locs := by rw [eG_634]; exact hm
  have g_635 : G_634 1000 = some (.inr (6, [.int 0, .long 0, .int 0, .ref q_1, .ref q_11, .ref q_24, .ref q_40, .ref q_59, .ref q_81, .ref q_106, .ref q_134, .ref q_165, .ref q_375, .ref q_460, .ref q_500, .ref q_543, .null, .int 0, .int 0, .int 0, .int 0, .null, .null, .null, .null, .null, .int 0, .int 0])) := by rw [eG_634, va_up_self]
  have g_636 := (congrFun eG_634 1003).trans ((va_up_ne _ _ (by decide)).trans g_621)
  have g_637 := (congrFun eG_634 1004).trans ((va_up_ne _ _ (by decide)).trans g_622)
  have g_638 := (congrFun eG_634 1005).trans ((va_up_ne _ _ (by decide)).trans g_623)
  have g_639 := (congrFun eG_634 1006).trans ((va_up_ne _ _ (by decide)).trans g_624)
  have g_640 := (congrFun eG_634 1007).trans ((va_up_ne _ _ (by decide)).trans g_625)
  have g_641 := (congrFun eG_634 1008).trans ((va_up_ne _ _ (by decide)).trans g_626)
  have g_642 := (congrFun eG_634 1009).trans ((va_up_ne _ _ (by decide)).trans g_627)
  have g_643 := (congrFun eG_634 1010).trans ((va_up_ne _ _ (by decide)).trans g_628)
  have g_644 := (congrFun eG_634 1011).trans ((va_up_ne _ _ (by decide)).trans g_629)
  have g_645 := (congrFun eG_634 1012).trans ((va_up_ne _ _ (by decide)).trans g_630)
  have g_646 := (congrFun eG_634 1013).trans ((va_up_ne _ _ (by decide)).trans g_631)
  have g_647 := (congrFun eG_634 1014).trans ((va_up_ne _ _ (by decide)).trans g_632)
  have g_648 := (congrFun eG_634 1015).trans ((va_up_ne _ _ (by decide)).trans g_633)
  refine lv_aload_n hx hb d_M_init_220 rfl (lv_at hl 0 rfl) ?_
  refine lv_iconst (v := 4) hx hb d_M_init_221 (by decide) ?_
  refine m_newa (atype := .long) (ty := .long) (a0 := (4, .inr (.inl (fun _ => 0)))) (cA := (dA 1)) hx hb (hT _ k_675) rfl hm hA 1016 (by rw [eG_634, va_up_ne _ _ (by decide), eG_619, va_up_ne _ _ (by decide), eG_604, va_up_ne _ _ (by decide), eG_589, va_up_ne _ _ (by decide), eG_574, va_up_ne _ _ (by decide), eG_544, va_up_ne _ _ (by decide), eG_529, va_up_ne _ _ (by decide), eG_501, va_up_ne _ _ (by decide), eG_487, va_up_ne _ _ (by decide), eG_461, va_up_ne _ _ (by decide), eG_448, va_up_ne _ _ (by decide), eG_436, va_up_ne _ _ (by decide), eG_424, va_up_ne _ _ (by decide), eG_412, va_up_ne _ _ (by decide), eG_400, va_up_ne _ _ (by decide), eG_376, va_up_ne _ _ (by decide), eG_364, va_up_ne _ _ (by decide), eG_353, va_up_ne _ _ (by decide), eG_342, va_up_ne _ _ (by decide), eG_331, va_up_ne _ _ (by decide), eG_320, va_up_ne _ _ (by decide), eG_309, va_up_ne _ _ (by decide), eG_298, va_up_ne _ _ (by decide), eG_287, va_up_ne _ _ (by decide), eG_276, va_up_ne _ _ (by decide), eG_265, va_up_ne _ _ (by decide), eG_254, va_up_ne _ _ (by decide), eG_243, va_up_ne _ _ (by decide), eG_232, va_up_ne _ _ (by decide), eG_221, va_up_ne _ _ (by decide), eG_210, va_up_ne _ _ (by decide), eG_199, va_up_ne _ _ (by decide), eG_188, va_up_ne _ _ (by decide), eG_166, va_up_ne _ _ (by decide), eG_155, va_up_ne _ _ (by decide), eG_135, va_up_ne _ _ (by decide), eG_125, va_up_ne _ _ (by decide), eG_107, va_up_ne _ _ (by decide), eG_98, va_up_ne _ _ (by decide), eG_82, va_up_ne _ _ (by decide), eG_74, va_up_ne _ _ (by decide), eG_60, va_up_ne _ _ (by decide), eG_53, va_up_ne _ _ (by decide), eG_41, va_up_ne _ _ (by decide), eG_35, va_up_ne _ _ (by decide), eG_25, va_up_ne _ _ (by decide), eG_20, va_up_ne _ _ (by decide), eG_12, va_up_ne _ _ (by decide), eG_8, va_up_ne _ _ (by decide), eG_2, va_up_ne _ _ (by decide)]; exact hn 1016 (by decide) (by decide)) (show _ from (hC.1.2 1 _ rfl).2) (fun _ => rfl) (by decide) (by decide) (by decide) (Nat.le_of_ble_eq_true rfl) (Nat.le_of_ble_eq_true rfl) d_M_init_222 (fun q_649 H hm => ?_)
  obtain ⟨G_650, eG_650⟩ : ∃ z : mG, z = va_up G_634 1016 (some (.inl ((dA 1), 4, .inr (.inl (fun _ => 0))))) := ⟨_, rfl⟩
  obtain ⟨ad_651, ead_651⟩ : ∃ z : Nat → Nat, z = va_up ad_545 1016 q_649 := ⟨_, rfl⟩
  have hm : mS D mCl (mA ad G s.heap.size) s.heap ad_651 G_650 H locs := by rw [eG_650, ead_651]; exact hm
  have g_652 := (congrFun eG_650 1000).trans ((va_up_ne _ _ (by decide)).trans g_635)
  have g_653 := (congrFun eG_650 1003).trans ((va_up_ne _ _ (by decide)).trans g_636)
  have g_654 := (congrFun eG_650 1004).trans ((va_up_ne _ _ (by decide)).trans g_637)
  have g_655 := (congrFun eG_650 1005).trans ((va_up_ne _ _ (by decide)).trans g_638)
  have g_656 := (congrFun eG_650 1006).trans ((va_up_ne _ _ (by decide)).trans g_639)
  have g_657 := (congrFun eG_650 1007).trans ((va_up_ne _ _ (by decide)).trans g_640)
  have g_658 := (congrFun eG_650 1008).trans ((va_up_ne _ _ (by decide)).trans g_641)
  have g_659 := (congrFun eG_650 1009).trans ((va_up_ne _ _ (by decide)).trans g_642)
  have g_660 := (congrFun eG_650 1010).trans ((va_up_ne _ _ (by decide)).trans g_643)
  have g_661 := (congrFun eG_650 1011).trans ((va_up_ne _ _ (by decide)).trans g_644)
  have g_662 := (congrFun eG_650 1012).trans ((va_up_ne _ _ (by decide)).trans g_645)
  have g_663 := (congrFun eG_650 1013).trans ((va_up_ne _ _ (by decide)).trans g_646)
  have g_664 := (congrFun eG_650 1014).trans ((va_up_ne _ _ (by decide)).trans g_647)
  have g_665 := (congrFun eG_650 1015).trans ((va_up_ne _ _ (by decide)).trans g_648)
  have g_666 : G_650 1016 = some (.inl ((dA 1), 4, .inr (.inl (fun _ => 0)))) := by rw [eG_650, va_up_self]
  have z_667 : a0 = ad_651 1000 := by rw [ead_651, va_up_ne _ _ (by decide)]; exact z_560
  have z_668 : q_1 = ad_651 1003 := by rw [ead_651, va_up_ne _ _ (by decide)]; exact z_561
  have z_669 : q_11 = ad_651 1004 := by rw [ead_651, va_up_ne _ _ (by decide)]; exact z_562
  have z_670 : q_24 = ad_651 1005 := by rw [ead_651, va_up_ne _ _ (by decide)]; exact z_563
  have z_671 : q_40 = ad_651 1006 := by rw [ead_651, va_up_ne _ _ (by decide)]; exact z_564
  have z_672 : q_59 = ad_651 1007 := by rw [ead_651, va_up_ne _ _ (by decide)]; exact z_565
  have z_673 : q_81 = ad_651 1008 := by rw [ead_651, va_up_ne _ _ (by decide)]; exact z_566
  have z_674 : q_106 = ad_651 1009 := by rw [ead_651, va_up_ne _ _ (by decide)]; exact z_567
  have z_675 : q_134 = ad_651 1010 := by rw [ead_651, va_up_ne _ _ (by decide)]; exact z_568
  have z_676 : q_165 = ad_651 1011 := by rw [ead_651, va_up_ne _ _ (by decide)]; exact z_569
  have z_677 : q_375 = ad_651 1012 := by rw [ead_651, va_up_ne _ _ (by decide)]; exact z_570
  have z_678 : q_460 = ad_651 1013 := by rw [ead_651, va_up_ne _ _ (by decide)]; exact z_571
  have z_679 : q_500 = ad_651 1014 := by rw [ead_651, va_up_ne _ _ (by decide)]; exact z_572
  have z_680 : q_543 = ad_651 1015 := by rw [ead_651, va_up_ne _ _ (by decide)]; exact z_573
  have z_681 : q_649 = ad_651 1016 := by rw [ead_651, va_up_self]
  refine lv_dup hx hb d_M_init_224 rfl ?_
  refine lv_iconst (v := 0) hx hb d_M_init_225 (by decide) ?_
  refine lv_lconst (v := 1) hx hb d_M_init_226 (by decide) ?_
  refine m_last hx hb hC.1 hm 1016 z_681 1 g_666 rfl (vpc _ _ (by decide)) d_M_init_227 (fun H locs hm => ?_)
  obtain ⟨G_682, eG_682⟩ : ∃ z : mG, z = va_up G_650 1016 (some (.inl ((dA 1), 4, .inr (.inl (vp_updL (fun _ => 0) 0 1))))) := ⟨_, rfl⟩
  have hm : mS D mCl (mA ad G s.heap.size) s.heap ad_651 G_682 H locs := by rw [eG_682]; exact hm
  have g_683 := (congrFun eG_682 1000).trans ((va_up_ne _ _ (by decide)).trans g_652)
  have g_684 := (congrFun eG_682 1003).trans ((va_up_ne _ _ (by decide)).trans g_653)
  have g_685 := (congrFun eG_682 1004).trans ((va_up_ne _ _ (by decide)).trans g_654)
  have g_686 := (congrFun eG_682 1005).trans ((va_up_ne _ _ (by decide)).trans g_655)
  have g_687 := (congrFun eG_682 1006).trans ((va_up_ne _ _ (by decide)).trans g_656)
  have g_688 := (congrFun eG_682 1007).trans ((va_up_ne _ _ (by decide)).trans g_657)
  have g_689 := (congrFun eG_682 1008).trans ((va_up_ne _ _ (by decide)).trans g_658)
  have g_690 := (congrFun eG_682 1009).trans ((va_up_ne _ _ (by decide)).trans g_659)
  have g_691 := (congrFun eG_682 1010).trans ((va_up_ne _ _ (by decide)).trans g_660)
  have g_692 := (congrFun eG_682 1011).trans ((va_up_ne _ _ (by decide)).trans g_661)
  have g_693 := (congrFun eG_682 1012).trans ((va_up_ne _ _ (by decide)).trans g_662)
  have g_694 := (congrFun eG_682 1013).trans ((va_up_ne _ _ (by decide)).trans g_663)
  have g_695 := (congrFun eG_682 1014).trans ((va_up_ne _ _ (by decide)).trans g_664)
  have g_696 := (congrFun eG_682 1015).trans ((va_up_ne _ _ (by decide)).trans g_665)
  have g_697 : G_682 1016 = some (.inl ((dA 1), 4, .inr (.inl (vp_updL (fun _ => 0) 0 1)))) := by rw [eG_682, va_up_self]
  refine lv_dup hx hb d_M_init_228 rfl ?_
  refine lv_iconst (v := 1) hx hb d_M_init_229 (by decide) ?_
  refine lv_lconst (v := 1) hx hb d_M_init_230 (by decide) ?_
  refine m_last hx hb hC.1 hm 1016 z_681 1 g_697 rfl (vpc _ _ (by decide)) d_M_init_231 (fun H locs hm => ?_)
  obtain ⟨G_698, eG_698⟩ : ∃ z : mG, z = va_up G_682 1016 (some (.inl ((dA 1), 4, .inr (.inl (vp_updL (vp_updL (fun _ => 0) 0 1) 1 1))))) := ⟨_, rfl⟩
  have hm : mS D mCl (mA ad G s.heap.size) s.heap ad_651 G_698 H locs := by rw [eG_698]; exact hm
  have g_699 := (congrFun eG_698 1000).trans ((va_up_ne _ _ (by decide)).trans g_683)
  have g_700 := (congrFun eG_698 1003).trans ((va_up_ne _ _ (by decide)).trans g_684)
  have g_701 := (congrFun eG_698 1004).trans ((va_up_ne _ _ (by decide)).trans g_685)
  have g_702 := (congrFun eG_698 1005).trans ((va_up_ne _ _ (by decide)).trans g_686)
  have g_703 := (congrFun eG_698 1006).trans ((va_up_ne _ _ (by decide)).trans g_687)
  have g_704 := (congrFun eG_698 1007).trans ((va_up_ne _ _ (by decide)).trans g_688)
  have g_705 := (congrFun eG_698 1008).trans ((va_up_ne _ _ (by decide)).trans g_689)
  have g_706 := (congrFun eG_698 1009).trans ((va_up_ne _ _ (by decide)).trans g_690)
  have g_707 := (congrFun eG_698 1010).trans ((va_up_ne _ _ (by decide)).trans g_691)
  have g_708 := (congrFun eG_698 1011).trans ((va_up_ne _ _ (by decide)).trans g_692)
  have g_709 := (congrFun eG_698 1012).trans ((va_up_ne _ _ (by decide)).trans g_693)
  have g_710 := (congrFun eG_698 1013).trans ((va_up_ne _ _ (by decide)).trans g_694)
  have g_711 := (congrFun eG_698 1014).trans ((va_up_ne _ _ (by decide)).trans g_695)
  have g_712 := (congrFun eG_698 1015).trans ((va_up_ne _ _ (by decide)).trans g_696)
  have g_713 : G_698 1016 = some (.inl ((dA 1), 4, .inr (.inl (vp_updL (vp_updL (fun _ => 0) 0 1) 1 1)))) := by rw [eG_698, va_up_self]
  refine lv_dup hx hb d_M_init_232 rfl ?_
  refine lv_iconst (v := 2) hx hb d_M_init_233 (by decide) ?_
  refine lv_lconst (v := 1) hx hb d_M_init_234 (by decide) ?_
  refine m_last hx hb hC.1 hm 1016 z_681 1 g_713 rfl (vpc _ _ (by decide)) d_M_init_235 (fun H locs hm => ?_)
  obtain ⟨G_714, eG_714⟩ : ∃ z : mG, z = va_up G_698 1016 (some (.inl ((dA 1), 4, .inr (.inl (vp_updL (vp_updL (vp_updL (fun _ => 0) 0 1) 1 1) 2 1))))) := ⟨_, rfl⟩
  have hm : mS D mCl (mA ad G s.heap.size) s.heap ad_651 G_714 H locs := by rw [eG_714]; exact hm
  have g_715 := (congrFun eG_714 1000).trans ((va_up_ne _ _ (by decide)).trans g_699)
  have g_716 := (congrFun eG_714 1003).trans ((va_up_ne _ _ (by decide)).trans g_700)
  have g_717 := (congrFun eG_714 1004).trans ((va_up_ne _ _ (by decide)).trans g_701)
  have g_718 := (congrFun eG_714 1005).trans ((va_up_ne _ _ (by decide)).trans g_702)
  have g_719 := (congrFun eG_714 1006).trans ((va_up_ne _ _ (by decide)).trans g_703)
  have g_720 := (congrFun eG_714 1007).trans ((va_up_ne _ _ (by decide)).trans g_704)
  have g_721 := (congrFun eG_714 1008).trans ((va_up_ne _ _ (by decide)).trans g_705)
  have g_722 := (congrFun eG_714 1009).trans ((va_up_ne _ _ (by decide)).trans g_706)
  have g_723 := (congrFun eG_714 1010).trans ((va_up_ne _ _ (by decide)).trans g_707)
  have g_724 := (congrFun eG_714 1011).trans ((va_up_ne _ _ (by decide)).trans g_708)
  have g_725 := (congrFun eG_714 1012).trans ((va_up_ne _ _ (by decide)).trans g_709)
  have g_726 := (congrFun eG_714 1013).trans ((va_up_ne _ _ (by decide)).trans g_710)
  have g_727 := (congrFun eG_714 1014).trans ((va_up_ne _ _ (by decide)).trans g_711)
  have g_728 := (congrFun eG_714 1015).trans ((va_up_ne _ _ (by decide)).trans g_712)
  have g_729 : G_714 1016 = some (.inl ((dA 1), 4, .inr (.inl (vp_updL (vp_updL (vp_updL (fun _ => 0) 0 1) 1 1) 2 1)))) := by rw [eG_714, va_up_self]
  refine lv_dup hx hb d_M_init_236 rfl ?_
  refine lv_iconst (v := 3) hx hb d_M_init_237 (by decide) ?_
  refine lv_lconst (v := 1) hx hb d_M_init_238 (by decide) ?_
  refine m_last hx hb hC.1 hm 1016 z_681 1 g_729 rfl (vpc _ _ (by decide)) d_M_init_239 (fun H locs hm => ?_)
  obtain ⟨G_730, eG_730⟩ : ∃ z : mG, z = va_up G_714 1016 (some (.inl ((dA 1), 4, .inr (.inl (vp_updL (vp_updL (vp_updL (vp_updL (fun _ => 0) 0 1) 1 1) 2 1) 3 1))))) := ⟨_, rfl⟩
  have hm : mS D mCl (mA ad G s.heap.size) s.heap ad_651 G_730 H locs := by rw [eG_730]; exact hm
  have g_731 := (congrFun eG_730 1000).trans ((va_up_ne _ _ (by decide)).trans g_715)
  have g_732 := (congrFun eG_730 1003).trans ((va_up_ne _ _ (by decide)).trans g_716)
  have g_733 := (congrFun eG_730 1004).trans ((va_up_ne _ _ (by decide)).trans g_717)
  have g_734 := (congrFun eG_730 1005).trans ((va_up_ne _ _ (by decide)).trans g_718)
  have g_735 := (congrFun eG_730 1006).trans ((va_up_ne _ _ (by decide)).trans g_719)
  have g_736 := (congrFun eG_730 1007).trans ((va_up_ne _ _ (by decide)).trans g_720)
  have g_737 := (congrFun eG_730 1008).trans ((va_up_ne _ _ (by decide)).trans g_721)
  have g_738 := (congrFun eG_730 1009).trans ((va_up_ne _ _ (by decide)).trans g_722)
  have g_739 := (congrFun eG_730 1010).trans ((va_up_ne _ _ (by decide)).trans g_723)
  have g_740 := (congrFun eG_730 1011).trans ((va_up_ne _ _ (by decide)).trans g_724)
  have g_741 := (congrFun eG_730 1012).trans ((va_up_ne _ _ (by decide)).trans g_725)
  have g_742 := (congrFun eG_730 1013).trans ((va_up_ne _ _ (by decide)).trans g_726)
  have g_743 := (congrFun eG_730 1014).trans ((va_up_ne _ _ (by decide)).trans g_727)
  have g_744 := (congrFun eG_730 1015).trans ((va_up_ne _ _ (by decide)).trans g_728)
  have g_745 : G_730 1016 = some (.inl ((dA 1), 4, .inr (.inl (vp_updL (vp_updL (vp_updL (vp_updL (fun _ => 0) 0 1) 1 1) 2 1) 3 1)))) := by rw [eG_730, va_up_self]
  refine m_putF (v := .ref q_649) (ty := (.array .long)) (C := R_M) (T := T_M) (N := 28) hx hb hT in_M t_M tok_M nm_M hown hC.1 hm 1000 z_667 g_731 rfl 16 (by decide) (hT _ k_606) (fun _ h9 => h9) rfl hin rfl (by decide +kernel) rfl rfl (Nat.le_of_ble_eq_true rfl) d_M_init_240 (fun H locs hm => ?_)
  obtain ⟨G_746, eG_746⟩ : ∃ z : mG, z = va_up G_730 1000 (some (.inr (6, [.int 0, .long 0, .int 0, .ref q_1, .ref q_11, .ref q_24, .ref q_40, .ref q_59, .ref q_81, .ref q_106, .ref q_134, .ref q_165, .ref q_375, .ref q_460, .ref q_500, .ref q_543, .ref q_649, .int 0, .int 0, .int 0, .int 0, .null, .null, .null, .null, .null, .int 0, .int 0]))) := ⟨_, rfl⟩
  have hm : mS D mCl (mA ad G s.heap.size) s.heap ad_651 G_746 H locs := by rw [eG_746]; exact hm
  have g_747 : G_746 1000 = some (.inr (6, [.int 0, .long 0, .int 0, .ref q_1, .ref q_11, .ref q_24, .ref q_40, .ref q_59, .ref q_81, .ref q_106, .ref q_134, .ref q_165, .ref q_375, .ref q_460, .ref q_500, .ref q_543, .ref q_649, .int 0, .int 0, .int 0, .int 0, .null, .null, .null, .null, .null, .int 0, .int 0])) := by rw [eG_746, va_up_self]
  have g_748 := (congrFun eG_746 1003).trans ((va_up_ne _ _ (by decide)).trans g_732)
  have g_749 := (congrFun eG_746 1004).trans ((va_up_ne _ _ (by decide)).trans g_733)
  have g_750 := (congrFun eG_746 1005).trans ((va_up_ne _ _ (by decide)).trans g_734)
  have g_751 := (congrFun eG_746 1006).trans ((va_up_ne _ _ (by decide)).trans g_735)
  have g_752 := (congrFun eG_746 1007).trans ((va_up_ne _ _ (by decide)).trans g_736)
  have g_753 := (congrFun eG_746 1008).trans ((va_up_ne _ _ (by decide)).trans g_737)
  have g_754 := (congrFun eG_746 1009).trans ((va_up_ne _ _ (by decide)).trans g_738)
  have g_755 := (congrFun eG_746 1010).trans ((va_up_ne _ _ (by decide)).trans g_739)
  have g_756 := (congrFun eG_746 1011).trans ((va_up_ne _ _ (by decide)).trans g_740)
  have g_757 := (congrFun eG_746 1012).trans ((va_up_ne _ _ (by decide)).trans g_741)
  have g_758 := (congrFun eG_746 1013).trans ((va_up_ne _ _ (by decide)).trans g_742)
  have g_759 := (congrFun eG_746 1014).trans ((va_up_ne _ _ (by decide)).trans g_743)
  have g_760 := (congrFun eG_746 1015).trans ((va_up_ne _ _ (by decide)).trans g_744)
  have g_761 := (congrFun eG_746 1016).trans ((va_up_ne _ _ (by decide)).trans g_745)
  refine lv_aload_n hx hb d_M_init_243 rfl (lv_at hl 0 rfl) ?_
  refine lv_sipush (v := 1000) hx hb d_M_init_244 (by decide) ?_
  refine m_put (v := .int 1000) (ty := .int) (C := R_M) (T := T_M) (N := 28) hx hb hT in_M t_M tok_M nm_M hown hC.1 hm 1000 z_667 g_747 rfl 17 (by decide) (hT _ k_607) (fun _ h9 => h9) rfl (by decide +kernel) rfl rfl (Nat.le_of_ble_eq_true rfl) d_M_init_247 (fun H locs hm => ?_)
  obtain ⟨G_762, eG_762⟩ : ∃ z : mG, z = va_up G_746 1000 (some (.inr (6, [.int 0, .long 0, .int 0, .ref q_1, .ref q_11, .ref q_24, .ref q_40, .ref q_59, .ref q_81, .ref q_106, .ref q_134, .ref q_165, .ref q_375, .ref q_460, .ref q_500, .ref q_543, .ref q_649, .int 1000, .int 0, .int 0, .int 0, .null, .null, .null, .null, .null, .int 0, .int 0]))) := ⟨_, rfl⟩
  have hm : mS D mCl (mA ad G s.heap.size) s.heap ad_651 G_762 H locs := by rw [eG_762]; exact hm
  have g_763 : G_762 1000 = some (.inr (6, [.int 0, .long 0, .int 0, .ref q_1, .ref q_11, .ref q_24, .ref q_40, .ref q_59, .ref q_81, .ref q_106, .ref q_134, .ref q_165, .ref q_375, .ref q_460, .ref q_500, .ref q_543, .ref q_649, .int 1000, .int 0, .int 0, .int 0, .null, .null, .null, .null, .null, .int 0, .int 0])) := by rw [eG_762, va_up_self]
  have g_764 := (congrFun eG_762 1003).trans ((va_up_ne _ _ (by decide)).trans g_748)
  have g_765 := (congrFun eG_762 1004).trans ((va_up_ne _ _ (by decide)).trans g_749)
  have g_766 := (congrFun eG_762 1005).trans ((va_up_ne _ _ (by decide)).trans g_750)
  have g_767 := (congrFun eG_762 1006).trans ((va_up_ne _ _ (by decide)).trans g_751)
  have g_768 := (congrFun eG_762 1007).trans ((va_up_ne _ _ (by decide)).trans g_752)
  have g_769 := (congrFun eG_762 1008).trans ((va_up_ne _ _ (by decide)).trans g_753)
  have g_770 := (congrFun eG_762 1009).trans ((va_up_ne _ _ (by decide)).trans g_754)
  have g_771 := (congrFun eG_762 1010).trans ((va_up_ne _ _ (by decide)).trans g_755)
  have g_772 := (congrFun eG_762 1011).trans ((va_up_ne _ _ (by decide)).trans g_756)
  have g_773 := (congrFun eG_762 1012).trans ((va_up_ne _ _ (by decide)).trans g_757)
  have g_774 := (congrFun eG_762 1013).trans ((va_up_ne _ _ (by decide)).trans g_758)
  have g_775 := (congrFun eG_762 1014).trans ((va_up_ne _ _ (by decide)).trans g_759)
  have g_776 := (congrFun eG_762 1015).trans ((va_up_ne _ _ (by decide)).trans g_760)
  have g_777 := (congrFun eG_762 1016).trans ((va_up_ne _ _ (by decide)).trans g_761)
  refine lv_aload_n hx hb d_M_init_250 rfl (lv_at hl 0 rfl) ?_
  refine lv_iconst (v := 4) hx hb d_M_init_251 (by decide) ?_
  refine m_put (v := .int 4) (ty := .int) (C := R_M) (T := T_M) (N := 28) hx hb hT in_M t_M tok_M nm_M hown hC.1 hm 1000 z_667 g_763 rfl 18 (by decide) (hT _ k_608) (fun _ h9 => h9) rfl (by decide +kernel) rfl rfl (Nat.le_of_ble_eq_true rfl) d_M_init_252 (fun H locs hm => ?_)
  obtain ⟨G_778, eG_778⟩ : ∃ z : mG, z = va_up G_762 1000 (some (.inr (6, [.int 0, .long 0, .int 0, .ref q_1, .ref q_11, .ref q_24, .ref q_40, .ref q_59, .ref q_81, .ref q_106, .ref q_134, .ref q_165, .ref q_375, .ref q_460, .ref q_500, .ref q_543, .ref q_649, .int 1000, .int 4, .int 0, .int 0, .null, .null, .null, .null, .null, .int 0, .int 0]))) := ⟨_, rfl⟩
  have hm : mS D mCl (mA ad G s.heap.size) s.heap ad_651 G_778 H locs := by rw [eG_778]; exact hm
  have g_779 : G_778 1000 = some (.inr (6, [.int 0, .long 0, .int 0, .ref q_1, .ref q_11, .ref q_24, .ref q_40, .ref q_59, .ref q_81, .ref q_106, .ref q_134, .ref q_165, .ref q_375, .ref q_460, .ref q_500, .ref q_543, .ref q_649, .int 1000, .int 4, .int 0, .int 0, .null, .null, .null, .null, .null, .int 0, .int 0])) := by rw [eG_778, va_up_self]
  have g_780 := (congrFun eG_778 1003).trans ((va_up_ne _ _ (by decide)).trans g_764)
  have g_781 := (congrFun eG_778 1004).trans ((va_up_ne _ _ (by decide)).trans g_765)
  have g_782 := (congrFun eG_778 1005).trans ((va_up_ne _ _ (by decide)).trans g_766)
  have g_783 := (congrFun eG_778 1006).trans ((va_up_ne _ _ (by decide)).trans g_767)
  have g_784 := (congrFun eG_778 1007).trans ((va_up_ne _ _ (by decide)).trans g_768)
  have g_785 := (congrFun eG_778 1008).trans ((va_up_ne _ _ (by decide)).trans g_769)
  have g_786 := (congrFun eG_778 1009).trans ((va_up_ne _ _ (by decide)).trans g_770)
  have g_787 := (congrFun eG_778 1010).trans ((va_up_ne _ _ (by decide)).trans g_771)
  have g_788 := (congrFun eG_778 1011).trans ((va_up_ne _ _ (by decide)).trans g_772)
  have g_789 := (congrFun eG_778 1012).trans ((va_up_ne _ _ (by decide)).trans g_773)
  have g_790 := (congrFun eG_778 1013).trans ((va_up_ne _ _ (by decide)).trans g_774)
  have g_791 := (congrFun eG_778 1014).trans ((va_up_ne _ _ (by decide)).trans g_775)
  have g_792 := (congrFun eG_778 1015).trans ((va_up_ne _ _ (by decide)).trans g_776)
  have g_793 := (congrFun eG_778 1016).trans ((va_up_ne _ _ (by decide)).trans g_777)
  refine lv_aload_n hx hb d_M_init_255 rfl (lv_at hl 0 rfl) ?_
  refine lv_sipush (v := 500) hx hb d_M_init_256 (by decide) ?_
  refine m_put (v := .int 500) (ty := .int) (C := R_M) (T := T_M) (N := 28) hx hb hT in_M t_M tok_M nm_M hown hC.1 hm 1000 z_667 g_779 rfl 19 (by decide) (hT _ k_609) (fun _ h9 => h9) rfl (by decide +kernel) rfl rfl (Nat.le_of_ble_eq_true rfl) d_M_init_259 (fun H locs hm => ?_)
  obtain ⟨G_794, eG_794⟩ : ∃ z : mG, z = va_up G_778 1000 (some (.inr (6, [.int 0, .long 0, .int 0, .ref q_1, .ref q_11, .ref q_24, .ref q_40, .ref q_59, .ref q_81, .ref q_106, .ref q_134, .ref q_165, .ref q_375, .ref q_460, .ref q_500, .ref q_543, .ref q_649, .int 1000, .int 4, .int 500, .int 0, .null, .null, .null, .null, .null, .int 0, .int 0]))) := ⟨_, rfl⟩
  have hm : mS D mCl (mA ad G s.heap.size) s.heap ad_651 G_794 H locs := by rw [eG_794]; exact hm
  have g_795 : G_794 1000 = some (.inr (6, [.int 0, .long 0, .int 0, .ref q_1, .ref q_11, .ref q_24, .ref q_40, .ref q_59, .ref q_81, .ref q_106, .ref q_134, .ref q_165, .ref q_375, .ref q_460, .ref q_500, .ref q_543, .ref q_649, .int 1000, .int 4, .int 500, .int 0, .null, .null, .null, .null, .null, .int 0, .int 0])) := by rw [eG_794, va_up_self]
  have g_796 := (congrFun eG_794 1003).trans ((va_up_ne _ _ (by decide)).trans g_780)
  have g_797 := (congrFun eG_794 1004).trans ((va_up_ne _ _ (by decide)).trans g_781)
  have g_798 := (congrFun eG_794 1005).trans ((va_up_ne _ _ (by decide)).trans g_782)
  have g_799 := (congrFun eG_794 1006).trans ((va_up_ne _ _ (by decide)).trans g_783)
  have g_800 := (congrFun eG_794 1007).trans ((va_up_ne _ _ (by decide)).trans g_784)
  have g_801 := (congrFun eG_794 1008).trans ((va_up_ne _ _ (by decide)).trans g_785)
  have g_802 := (congrFun eG_794 1009).trans ((va_up_ne _ _ (by decide)).trans g_786)
  have g_803 := (congrFun eG_794 1010).trans ((va_up_ne _ _ (by decide)).trans g_787)
  have g_804 := (congrFun eG_794 1011).trans ((va_up_ne _ _ (by decide)).trans g_788)
  have g_805 := (congrFun eG_794 1012).trans ((va_up_ne _ _ (by decide)).trans g_789)
  have g_806 := (congrFun eG_794 1013).trans ((va_up_ne _ _ (by decide)).trans g_790)
  have g_807 := (congrFun eG_794 1014).trans ((va_up_ne _ _ (by decide)).trans g_791)
  have g_808 := (congrFun eG_794 1015).trans ((va_up_ne _ _ (by decide)).trans g_792)
  have g_809 := (congrFun eG_794 1016).trans ((va_up_ne _ _ (by decide)).trans g_793)
  refine lv_aload_n hx hb d_M_init_262 rfl (lv_at hl 0 rfl) ?_
  refine lv_sipush (v := 600) hx hb d_M_init_263 (by decide) ?_
  refine m_put (v := .int 600) (ty := .int) (C := R_M) (T := T_M) (N := 28) hx hb hT in_M t_M tok_M nm_M hown hC.1 hm 1000 z_667 g_795 rfl 20 (by decide) (hT _ k_610) (fun _ h9 => h9) rfl (by decide +kernel) rfl rfl (Nat.le_of_ble_eq_true rfl) d_M_init_266 (fun H locs hm => ?_)
  obtain ⟨G_810, eG_810⟩ : ∃ z : mG, z = va_up G_794 1000 (some (.inr (6, [.int 0, .long 0, .int 0, .ref q_1, .ref q_11, .ref q_24, .ref q_40, .ref q_59, .ref q_81, .ref q_106, .ref q_134, .ref q_165, .ref q_375, .ref q_460, .ref q_500, .ref q_543, .ref q_649, .int 1000, .int 4, .int 500, .int 600, .null, .null, .null, .null, .null, .int 0, .int 0]))) := ⟨_, rfl⟩
  have hm : mS D mCl (mA ad G s.heap.size) s.heap ad_651 G_810 H locs := by rw [eG_810]; exact hm
  have g_811 : G_810 1000 = some (.inr (6, [.int 0, .long 0, .int 0, .ref q_1, .ref q_11, .ref q_24, .ref q_40, .ref q_59, .ref q_81, .ref q_106, .ref q_134, .ref q_165, .ref q_375, .ref q_460, .ref q_500, .ref q_543, .ref q_649, .int 1000, .int 4, .int 500, .int 600, .null, .null, .null, .null, .null, .int 0, .int 0])) := by rw [eG_810, va_up_self]
  have g_812 := (congrFun eG_810 1003).trans ((va_up_ne _ _ (by decide)).trans g_796)
  have g_813 := (congrFun eG_810 1004).trans ((va_up_ne _ _ (by decide)).trans g_797)
  have g_814 := (congrFun eG_810 1005).trans ((va_up_ne _ _ (by decide)).trans g_798)
  have g_815 := (congrFun eG_810 1006).trans ((va_up_ne _ _ (by decide)).trans g_799)
  have g_816 := (congrFun eG_810 1007).trans ((va_up_ne _ _ (by decide)).trans g_800)
  have g_817 := (congrFun eG_810 1008).trans ((va_up_ne _ _ (by decide)).trans g_801)
  have g_818 := (congrFun eG_810 1009).trans ((va_up_ne _ _ (by decide)).trans g_802)
  have g_819 := (congrFun eG_810 1010).trans ((va_up_ne _ _ (by decide)).trans g_803)
  have g_820 := (congrFun eG_810 1011).trans ((va_up_ne _ _ (by decide)).trans g_804)
  have g_821 := (congrFun eG_810 1012).trans ((va_up_ne _ _ (by decide)).trans g_805)
  have g_822 := (congrFun eG_810 1013).trans ((va_up_ne _ _ (by decide)).trans g_806)
  have g_823 := (congrFun eG_810 1014).trans ((va_up_ne _ _ (by decide)).trans g_807)
  have g_824 := (congrFun eG_810 1015).trans ((va_up_ne _ _ (by decide)).trans g_808)
  have g_825 := (congrFun eG_810 1016).trans ((va_up_ne _ _ (by decide)).trans g_809)
  refine lv_aload_n hx hb d_M_init_269 rfl (lv_at hl 0 rfl) ?_
  refine lv_sipush (v := 288) hx hb d_M_init_270 (by decide) ?_
  refine m_newa (atype := .int) (ty := .int) (a0 := (288, .inl (fun _ => 0))) (cA := (dA 0)) hx hb (hT _ k_59) rfl hm hA 1021 (by rw [eG_810, va_up_ne _ _ (by decide), eG_794, va_up_ne _ _ (by decide), eG_778, va_up_ne _ _ (by decide), eG_762, va_up_ne _ _ (by decide), eG_746, va_up_ne _ _ (by decide), eG_730, va_up_ne _ _ (by decide), eG_714, va_up_ne _ _ (by decide), eG_698, va_up_ne _ _ (by decide), eG_682, va_up_ne _ _ (by decide), eG_650, va_up_ne _ _ (by decide), eG_634, va_up_ne _ _ (by decide), eG_619, va_up_ne _ _ (by decide), eG_604, va_up_ne _ _ (by decide), eG_589, va_up_ne _ _ (by decide), eG_574, va_up_ne _ _ (by decide), eG_544, va_up_ne _ _ (by decide), eG_529, va_up_ne _ _ (by decide), eG_501, va_up_ne _ _ (by decide), eG_487, va_up_ne _ _ (by decide), eG_461, va_up_ne _ _ (by decide), eG_448, va_up_ne _ _ (by decide), eG_436, va_up_ne _ _ (by decide), eG_424, va_up_ne _ _ (by decide), eG_412, va_up_ne _ _ (by decide), eG_400, va_up_ne _ _ (by decide), eG_376, va_up_ne _ _ (by decide), eG_364, va_up_ne _ _ (by decide), eG_353, va_up_ne _ _ (by decide), eG_342, va_up_ne _ _ (by decide), eG_331, va_up_ne _ _ (by decide), eG_320, va_up_ne _ _ (by decide), eG_309, va_up_ne _ _ (by decide), eG_298, va_up_ne _ _ (by decide), eG_287, va_up_ne _ _ (by decide), eG_276, va_up_ne _ _ (by decide), eG_265, va_up_ne _ _ (by decide), eG_254, va_up_ne _ _ (by decide), eG_243, va_up_ne _ _ (by decide), eG_232, va_up_ne _ _ (by decide), eG_221, va_up_ne _ _ (by decide), eG_210, va_up_ne _ _ (by decide), eG_199, va_up_ne _ _ (by decide), eG_188, va_up_ne _ _ (by decide), eG_166, va_up_ne _ _ (by decide), eG_155, va_up_ne _ _ (by decide), eG_135, va_up_ne _ _ (by decide), eG_125, va_up_ne _ _ (by decide), eG_107, va_up_ne _ _ (by decide), eG_98, va_up_ne _ _ (by decide), eG_82, va_up_ne _ _ (by decide), eG_74, va_up_ne _ _ (by decide), eG_60, va_up_ne _ _ (by decide), eG_53, va_up_ne _ _ (by decide), eG_41, va_up_ne _ _ (by decide), eG_35, va_up_ne _ _ (by decide), eG_25, va_up_ne _ _ (by decide), eG_20, va_up_ne _ _ (by decide), eG_12, va_up_ne _ _ (by decide), eG_8, va_up_ne _ _ (by decide), eG_2, va_up_ne _ _ (by decide)]; exact hn 1021 (by decide) (by decide)) (show _ from (hC.1.2 0 _ rfl).2) (fun _ => rfl) (by decide) (by decide) (by decide) (Nat.le_of_ble_eq_true rfl) (Nat.le_of_ble_eq_true rfl) d_M_init_273 (fun q_826 H hm => ?_)
  obtain ⟨G_827, eG_827⟩ : ∃ z : mG, z = va_up G_810 1021 (some (.inl ((dA 0), 288, .inl (fun _ => 0)))) := ⟨_, rfl⟩
  obtain ⟨ad_828, ead_828⟩ : ∃ z : Nat → Nat, z = va_up ad_651 1021 q_826 := ⟨_, rfl⟩
  have hm : mS D mCl (mA ad G s.heap.size) s.heap ad_828 G_827 H locs := by rw [eG_827, ead_828]; exact hm
  have g_829 := (congrFun eG_827 1000).trans ((va_up_ne _ _ (by decide)).trans g_811)
  have g_830 := (congrFun eG_827 1003).trans ((va_up_ne _ _ (by decide)).trans g_812)
  have g_831 := (congrFun eG_827 1004).trans ((va_up_ne _ _ (by decide)).trans g_813)
  have g_832 := (congrFun eG_827 1005).trans ((va_up_ne _ _ (by decide)).trans g_814)
  have g_833 := (congrFun eG_827 1006).trans ((va_up_ne _ _ (by decide)).trans g_815)
  have g_834 := (congrFun eG_827 1007).trans ((va_up_ne _ _ (by decide)).trans g_816)
  have g_835 := (congrFun eG_827 1008).trans ((va_up_ne _ _ (by decide)).trans g_817)
  have g_836 := (congrFun eG_827 1009).trans ((va_up_ne _ _ (by decide)).trans g_818)
  have g_837 := (congrFun eG_827 1010).trans ((va_up_ne _ _ (by decide)).trans g_819)
  have g_838 := (congrFun eG_827 1011).trans ((va_up_ne _ _ (by decide)).trans g_820)
  have g_839 := (congrFun eG_827 1012).trans ((va_up_ne _ _ (by decide)).trans g_821)
  have g_840 := (congrFun eG_827 1013).trans ((va_up_ne _ _ (by decide)).trans g_822)
  have g_841 := (congrFun eG_827 1014).trans ((va_up_ne _ _ (by decide)).trans g_823)
  have g_842 := (congrFun eG_827 1015).trans ((va_up_ne _ _ (by decide)).trans g_824)
  have g_843 := (congrFun eG_827 1016).trans ((va_up_ne _ _ (by decide)).trans g_825)
  have g_844 : G_827 1021 = some (.inl ((dA 0), 288, .inl (fun _ => 0))) := by rw [eG_827, va_up_self]
  have z_845 : a0 = ad_828 1000 := by rw [ead_828, va_up_ne _ _ (by decide)]; exact z_667
  have z_846 : q_1 = ad_828 1003 := by rw [ead_828, va_up_ne _ _ (by decide)]; exact z_668
  have z_847 : q_11 = ad_828 1004 := by rw [ead_828, va_up_ne _ _ (by decide)]; exact z_669
  have z_848 : q_24 = ad_828 1005 := by rw [ead_828, va_up_ne _ _ (by decide)]; exact z_670
  have z_849 : q_40 = ad_828 1006 := by rw [ead_828, va_up_ne _ _ (by decide)]; exact z_671
  have z_850 : q_59 = ad_828 1007 := by rw [ead_828, va_up_ne _ _ (by decide)]; exact z_672
  have z_851 : q_81 = ad_828 1008 := by rw [ead_828, va_up_ne _ _ (by decide)]; exact z_673
  have z_852 : q_106 = ad_828 1009 := by rw [ead_828, va_up_ne _ _ (by decide)]; exact z_674
  have z_853 : q_134 = ad_828 1010 := by rw [ead_828, va_up_ne _ _ (by decide)]; exact z_675
  have z_854 : q_165 = ad_828 1011 := by rw [ead_828, va_up_ne _ _ (by decide)]; exact z_676
  have z_855 : q_375 = ad_828 1012 := by rw [ead_828, va_up_ne _ _ (by decide)]; exact z_677
  have z_856 : q_460 = ad_828 1013 := by rw [ead_828, va_up_ne _ _ (by decide)]; exact z_678
  have z_857 : q_500 = ad_828 1014 := by rw [ead_828, va_up_ne _ _ (by decide)]; exact z_679
  have z_858 : q_543 = ad_828 1015 := by rw [ead_828, va_up_ne _ _ (by decide)]; exact z_680
  have z_859 : q_649 = ad_828 1016 := by rw [ead_828, va_up_ne _ _ (by decide)]; exact z_681
  have z_860 : q_826 = ad_828 1021 := by rw [ead_828, va_up_self]
  refine m_putF (v := .ref q_826) (ty := (.array .int)) (C := R_M) (T := T_M) (N := 28) hx hb hT in_M t_M tok_M nm_M hown hC.1 hm 1000 z_845 g_829 rfl 21 (by decide) (hT _ k_611) (fun _ h9 => h9) rfl hin rfl (by decide +kernel) rfl rfl (Nat.le_of_ble_eq_true rfl) d_M_init_275 (fun H locs hm => ?_)
  obtain ⟨G_861, eG_861⟩ : ∃ z : mG, z = va_up G_827 1000 (some (.inr (6, [.int 0, .long 0, .int 0, .ref q_1, .ref q_11, .ref q_24, .ref q_40, .ref q_59, .ref q_81, .ref q_106, .ref q_134, .ref q_165, .ref q_375, .ref q_460, .ref q_500, .ref q_543, .ref q_649, .int 1000, .int 4, .int 500, .int 600, .ref q_826, .null, .null, .null, .null, .int 0, .int 0]))) := ⟨_, rfl⟩
  have hm : mS D mCl (mA ad G s.heap.size) s.heap ad_828 G_861 H locs := by rw [eG_861]; exact hm
  have g_862 : G_861 1000 = some (.inr (6, [.int 0, .long 0, .int 0, .ref q_1, .ref q_11, .ref q_24, .ref q_40, .ref q_59, .ref q_81, .ref q_106, .ref q_134, .ref q_165, .ref q_375, .ref q_460, .ref q_500, .ref q_543, .ref q_649, .int 1000, .int 4, .int 500, .int 600, .ref q_826, .null, .null, .null, .null, .int 0, .int 0])) := by rw [eG_861, va_up_self]
  have g_863 := (congrFun eG_861 1003).trans ((va_up_ne _ _ (by decide)).trans g_830)
  have g_864 := (congrFun eG_861 1004).trans ((va_up_ne _ _ (by decide)).trans g_831)
  have g_865 := (congrFun eG_861 1005).trans ((va_up_ne _ _ (by decide)).trans g_832)
  have g_866 := (congrFun eG_861 1006).trans ((va_up_ne _ _ (by decide)).trans g_833)
  have g_867 := (congrFun eG_861 1007).trans ((va_up_ne _ _ (by decide)).trans g_834)
  have g_868 := (congrFun eG_861 1008).trans ((va_up_ne _ _ (by decide)).trans g_835)
  have g_869 := (congrFun eG_861 1009).trans ((va_up_ne _ _ (by decide)).trans g_836)
  have g_870 := (congrFun eG_861 1010).trans ((va_up_ne _ _ (by decide)).trans g_837)
  have g_871 := (congrFun eG_861 1011).trans ((va_up_ne _ _ (by decide)).trans g_838)
  have g_872 := (congrFun eG_861 1012).trans ((va_up_ne _ _ (by decide)).trans g_839)
  have g_873 := (congrFun eG_861 1013).trans ((va_up_ne _ _ (by decide)).trans g_840)
  have g_874 := (congrFun eG_861 1014).trans ((va_up_ne _ _ (by decide)).trans g_841)
  have g_875 := (congrFun eG_861 1015).trans ((va_up_ne _ _ (by decide)).trans g_842)
  have g_876 := (congrFun eG_861 1016).trans ((va_up_ne _ _ (by decide)).trans g_843)
  have g_877 := (congrFun eG_861 1021).trans ((va_up_ne _ _ (by decide)).trans g_844)
  refine lv_aload_n hx hb d_M_init_278 rfl (lv_at hl 0 rfl) ?_
  refine lv_bipush (v := 12) hx hb d_M_init_279 (by decide) ?_
  refine m_newa (atype := .int) (ty := .int) (a0 := (12, .inl (fun _ => 0))) (cA := (dA 0)) hx hb (hT _ k_59) rfl hm hA 1022 (by rw [eG_861, va_up_ne _ _ (by decide), eG_827, va_up_ne _ _ (by decide), eG_810, va_up_ne _ _ (by decide), eG_794, va_up_ne _ _ (by decide), eG_778, va_up_ne _ _ (by decide), eG_762, va_up_ne _ _ (by decide), eG_746, va_up_ne _ _ (by decide), eG_730, va_up_ne _ _ (by decide), eG_714, va_up_ne _ _ (by decide), eG_698, va_up_ne _ _ (by decide), eG_682, va_up_ne _ _ (by decide), eG_650, va_up_ne _ _ (by decide), eG_634, va_up_ne _ _ (by decide), eG_619, va_up_ne _ _ (by decide), eG_604, va_up_ne _ _ (by decide), eG_589, va_up_ne _ _ (by decide), eG_574, va_up_ne _ _ (by decide), eG_544, va_up_ne _ _ (by decide), eG_529, va_up_ne _ _ (by decide), eG_501, va_up_ne _ _ (by decide), eG_487, va_up_ne _ _ (by decide), eG_461, va_up_ne _ _ (by decide), eG_448, va_up_ne _ _ (by decide), eG_436, va_up_ne _ _ (by decide), eG_424, va_up_ne _ _ (by decide), eG_412, va_up_ne _ _ (by decide), eG_400, va_up_ne _ _ (by decide), eG_376, va_up_ne _ _ (by decide), eG_364, va_up_ne _ _ (by decide), eG_353, va_up_ne _ _ (by decide), eG_342, va_up_ne _ _ (by decide), eG_331, va_up_ne _ _ (by decide), eG_320, va_up_ne _ _ (by decide), eG_309, va_up_ne _ _ (by decide), eG_298, va_up_ne _ _ (by decide), eG_287, va_up_ne _ _ (by decide), eG_276, va_up_ne _ _ (by decide), eG_265, va_up_ne _ _ (by decide), eG_254, va_up_ne _ _ (by decide), eG_243, va_up_ne _ _ (by decide), eG_232, va_up_ne _ _ (by decide), eG_221, va_up_ne _ _ (by decide), eG_210, va_up_ne _ _ (by decide), eG_199, va_up_ne _ _ (by decide), eG_188, va_up_ne _ _ (by decide), eG_166, va_up_ne _ _ (by decide), eG_155, va_up_ne _ _ (by decide), eG_135, va_up_ne _ _ (by decide), eG_125, va_up_ne _ _ (by decide), eG_107, va_up_ne _ _ (by decide), eG_98, va_up_ne _ _ (by decide), eG_82, va_up_ne _ _ (by decide), eG_74, va_up_ne _ _ (by decide), eG_60, va_up_ne _ _ (by decide), eG_53, va_up_ne _ _ (by decide), eG_41, va_up_ne _ _ (by decide), eG_35, va_up_ne _ _ (by decide), eG_25, va_up_ne _ _ (by decide), eG_20, va_up_ne _ _ (by decide), eG_12, va_up_ne _ _ (by decide), eG_8, va_up_ne _ _ (by decide), eG_2, va_up_ne _ _ (by decide)]; exact hn 1022 (by decide) (by decide)) (show _ from (hC.1.2 0 _ rfl).2) (fun _ => rfl) (by decide) (by decide) (by decide) (Nat.le_of_ble_eq_true rfl) (Nat.le_of_ble_eq_true rfl) d_M_init_281 (fun q_878 H hm => ?_)
  obtain ⟨G_879, eG_879⟩ : ∃ z : mG, z = va_up G_861 1022 (some (.inl ((dA 0), 12, .inl (fun _ => 0)))) := ⟨_, rfl⟩
  obtain ⟨ad_880, ead_880⟩ : ∃ z : Nat → Nat, z = va_up ad_828 1022 q_878 := ⟨_, rfl⟩
  have hm : mS D mCl (mA ad G s.heap.size) s.heap ad_880 G_879 H locs := by rw [eG_879, ead_880]; exact hm
  have g_881 := (congrFun eG_879 1000).trans ((va_up_ne _ _ (by decide)).trans g_862)
  have g_882 := (congrFun eG_879 1003).trans ((va_up_ne _ _ (by decide)).trans g_863)
  have g_883 := (congrFun eG_879 1004).trans ((va_up_ne _ _ (by decide)).trans g_864)
  have g_884 := (congrFun eG_879 1005).trans ((va_up_ne _ _ (by decide)).trans g_865)
  have g_885 := (congrFun eG_879 1006).trans ((va_up_ne _ _ (by decide)).trans g_866)
  have g_886 := (congrFun eG_879 1007).trans ((va_up_ne _ _ (by decide)).trans g_867)
  have g_887 := (congrFun eG_879 1008).trans ((va_up_ne _ _ (by decide)).trans g_868)
  have g_888 := (congrFun eG_879 1009).trans ((va_up_ne _ _ (by decide)).trans g_869)
  have g_889 := (congrFun eG_879 1010).trans ((va_up_ne _ _ (by decide)).trans g_870)
  have g_890 := (congrFun eG_879 1011).trans ((va_up_ne _ _ (by decide)).trans g_871)
  have g_891 := (congrFun eG_879 1012).trans ((va_up_ne _ _ (by decide)).trans g_872)
  have g_892 := (congrFun eG_879 1013).trans ((va_up_ne _ _ (by decide)).trans g_873)
  have g_893 := (congrFun eG_879 1014).trans ((va_up_ne _ _ (by decide)).trans g_874)
  have g_894 := (congrFun eG_879 1015).trans ((va_up_ne _ _ (by decide)).trans g_875)
  have g_895 := (congrFun eG_879 1016).trans ((va_up_ne _ _ (by decide)).trans g_876)
  have g_896 := (congrFun eG_879 1021).trans ((va_up_ne _ _ (by decide)).trans g_877)
  have g_897 : G_879 1022 = some (.inl ((dA 0), 12, .inl (fun _ => 0))) := by rw [eG_879, va_up_self]
  have z_898 : a0 = ad_880 1000 := by rw [ead_880, va_up_ne _ _ (by decide)]; exact z_845
  have z_899 : q_1 = ad_880 1003 := by rw [ead_880, va_up_ne _ _ (by decide)]; exact z_846
  have z_900 : q_11 = ad_880 1004 := by rw [ead_880, va_up_ne _ _ (by decide)]; exact z_847
  have z_901 : q_24 = ad_880 1005 := by rw [ead_880, va_up_ne _ _ (by decide)]; exact z_848
  have z_902 : q_40 = ad_880 1006 := by rw [ead_880, va_up_ne _ _ (by decide)]; exact z_849
  have z_903 : q_59 = ad_880 1007 := by rw [ead_880, va_up_ne _ _ (by decide)]; exact z_850
  have z_904 : q_81 = ad_880 1008 := by rw [ead_880, va_up_ne _ _ (by decide)]; exact z_851
  have z_905 : q_106 = ad_880 1009 := by rw [ead_880, va_up_ne _ _ (by decide)]; exact z_852
  have z_906 : q_134 = ad_880 1010 := by rw [ead_880, va_up_ne _ _ (by decide)]; exact z_853
  have z_907 : q_165 = ad_880 1011 := by rw [ead_880, va_up_ne _ _ (by decide)]; exact z_854
  have z_908 : q_375 = ad_880 1012 := by rw [ead_880, va_up_ne _ _ (by decide)]; exact z_855
  have z_909 : q_460 = ad_880 1013 := by rw [ead_880, va_up_ne _ _ (by decide)]; exact z_856
  have z_910 : q_500 = ad_880 1014 := by rw [ead_880, va_up_ne _ _ (by decide)]; exact z_857
  have z_911 : q_543 = ad_880 1015 := by rw [ead_880, va_up_ne _ _ (by decide)]; exact z_858
  have z_912 : q_649 = ad_880 1016 := by rw [ead_880, va_up_ne _ _ (by decide)]; exact z_859
  have z_913 : q_826 = ad_880 1021 := by rw [ead_880, va_up_ne _ _ (by decide)]; exact z_860
  have z_914 : q_878 = ad_880 1022 := by rw [ead_880, va_up_self]
  refine m_putF (v := .ref q_878) (ty := (.array .int)) (C := R_M) (T := T_M) (N := 28) hx hb hT in_M t_M tok_M nm_M hown hC.1 hm 1000 z_898 g_881 rfl 22 (by decide) (hT _ k_612) (fun _ h9 => h9) rfl hin rfl (by decide +kernel) rfl rfl (Nat.le_of_ble_eq_true rfl) d_M_init_283 (fun H locs hm => ?_)
  obtain ⟨G_915, eG_915⟩ : ∃ z : mG, z = va_up G_879 1000 (some (.inr (6, [.int 0, .long 0, .int 0, .ref q_1, .ref q_11, .ref q_24, .ref q_40, .ref q_59, .ref q_81, .ref q_106, .ref q_134, .ref q_165, .ref q_375, .ref q_460, .ref q_500, .ref q_543, .ref q_649, .int 1000, .int 4, .int 500, .int 600, .ref q_826, .ref q_878, .null, .null, .null, .int 0, .int 0]))) := ⟨_, rfl⟩
  have hm : mS D mCl (mA ad G s.heap.size) s.heap ad_880 G_915 H locs := by rw [eG_915]; exact hm
  have g_916 : G_915 1000 = some (.inr (6, [.int 0, .long 0, .int 0, .ref q_1, .ref q_11, .ref q_24, .ref q_40, .ref q_59, .ref q_81, .ref q_106, .ref q_134, .ref q_165, .ref q_375, .ref q_460, .ref q_500, .ref q_543, .ref q_649, .int 1000, .int 4, .int 500, .int 600, .ref q_826, .ref q_878, .null, .null, .null, .int 0, .int 0])) := by rw [eG_915, va_up_self]
  have g_917 := (congrFun eG_915 1003).trans ((va_up_ne _ _ (by decide)).trans g_882)
  have g_918 := (congrFun eG_915 1004).trans ((va_up_ne _ _ (by decide)).trans g_883)
  have g_919 := (congrFun eG_915 1005).trans ((va_up_ne _ _ (by decide)).trans g_884)
  have g_920 := (congrFun eG_915 1006).trans ((va_up_ne _ _ (by decide)).trans g_885)
  have g_921 := (congrFun eG_915 1007).trans ((va_up_ne _ _ (by decide)).trans g_886)
  have g_922 := (congrFun eG_915 1008).trans ((va_up_ne _ _ (by decide)).trans g_887)
  have g_923 := (congrFun eG_915 1009).trans ((va_up_ne _ _ (by decide)).trans g_888)
  have g_924 := (congrFun eG_915 1010).trans ((va_up_ne _ _ (by decide)).trans g_889)
  have g_925 := (congrFun eG_915 1011).trans ((va_up_ne _ _ (by decide)).trans g_890)
  have g_926 := (congrFun eG_915 1012).trans ((va_up_ne _ _ (by decide)).trans g_891)
  have g_927 := (congrFun eG_915 1013).trans ((va_up_ne _ _ (by decide)).trans g_892)
  have g_928 := (congrFun eG_915 1014).trans ((va_up_ne _ _ (by decide)).trans g_893)
  have g_929 := (congrFun eG_915 1015).trans ((va_up_ne _ _ (by decide)).trans g_894)
  have g_930 := (congrFun eG_915 1016).trans ((va_up_ne _ _ (by decide)).trans g_895)
  have g_931 := (congrFun eG_915 1021).trans ((va_up_ne _ _ (by decide)).trans g_896)
  have g_932 := (congrFun eG_915 1022).trans ((va_up_ne _ _ (by decide)).trans g_897)
  refine lv_aload_n hx hb d_M_init_286 rfl (lv_at hl 0 rfl) ?_
  refine lv_bipush (v := 12) hx hb d_M_init_287 (by decide) ?_
  refine m_newa (atype := .int) (ty := .int) (a0 := (12, .inl (fun _ => 0))) (cA := (dA 0)) hx hb (hT _ k_59) rfl hm hA 1023 (by rw [eG_915, va_up_ne _ _ (by decide), eG_879, va_up_ne _ _ (by decide), eG_861, va_up_ne _ _ (by decide), eG_827, va_up_ne _ _ (by decide), eG_810, va_up_ne _ _ (by decide), eG_794, va_up_ne _ _ (by decide), eG_778, va_up_ne _ _ (by decide), eG_762, va_up_ne _ _ (by decide), eG_746, va_up_ne _ _ (by decide), eG_730, va_up_ne _ _ (by decide), eG_714, va_up_ne _ _ (by decide), eG_698, va_up_ne _ _ (by decide), eG_682, va_up_ne _ _ (by decide), eG_650, va_up_ne _ _ (by decide), eG_634, va_up_ne _ _ (by decide), eG_619, va_up_ne _ _ (by decide), eG_604, va_up_ne _ _ (by decide), eG_589, va_up_ne _ _ (by decide), eG_574, va_up_ne _ _ (by decide), eG_544, va_up_ne _ _ (by decide), eG_529, va_up_ne _ _ (by decide), eG_501, va_up_ne _ _ (by decide), eG_487, va_up_ne _ _ (by decide), eG_461, va_up_ne _ _ (by decide), eG_448, va_up_ne _ _ (by decide), eG_436, va_up_ne _ _ (by decide), eG_424, va_up_ne _ _ (by decide), eG_412, va_up_ne _ _ (by decide), eG_400, va_up_ne _ _ (by decide), eG_376, va_up_ne _ _ (by decide), eG_364, va_up_ne _ _ (by decide), eG_353, va_up_ne _ _ (by decide), eG_342, va_up_ne _ _ (by decide), eG_331, va_up_ne _ _ (by decide), eG_320, va_up_ne _ _ (by decide), eG_309, va_up_ne _ _ (by decide), eG_298, va_up_ne _ _ (by decide), eG_287, va_up_ne _ _ (by decide), eG_276, va_up_ne _ _ (by decide), eG_265, va_up_ne _ _ (by decide), eG_254, va_up_ne _ _ (by decide), eG_243, va_up_ne _ _ (by decide), eG_232, va_up_ne _ _ (by decide), eG_221, va_up_ne _ _ (by decide), eG_210, va_up_ne _ _ (by decide), eG_199, va_up_ne _ _ (by decide), eG_188, va_up_ne _ _ (by decide), eG_166, va_up_ne _ _ (by decide), eG_155, va_up_ne _ _ (by decide), eG_135, va_up_ne _ _ (by decide), eG_125, va_up_ne _ _ (by decide), eG_107, va_up_ne _ _ (by decide), eG_98, va_up_ne _ _ (by decide), eG_82, va_up_ne _ _ (by decide), eG_74, va_up_ne _ _ (by decide), eG_60, va_up_ne _ _ (by decide), eG_53, va_up_ne _ _ (by decide), eG_41, va_up_ne _ _ (by decide), eG_35, va_up_ne _ _ (by decide), eG_25, va_up_ne _ _ (by decide), eG_20, va_up_ne _ _ (by decide), eG_12, va_up_ne _ _ (by decide), eG_8, va_up_ne _ _ (by decide), eG_2, va_up_ne _ _ (by decide)]; exact hn 1023 (by decide) (by decide)) (show _ from (hC.1.2 0 _ rfl).2) (fun _ => rfl) (by decide) (by decide) (by decide) (Nat.le_of_ble_eq_true rfl) (Nat.le_of_ble_eq_true rfl) d_M_init_289 (fun q_933 H hm => ?_)
  obtain ⟨G_934, eG_934⟩ : ∃ z : mG, z = va_up G_915 1023 (some (.inl ((dA 0), 12, .inl (fun _ => 0)))) := ⟨_, rfl⟩
  obtain ⟨ad_935, ead_935⟩ : ∃ z : Nat → Nat, z = va_up ad_880 1023 q_933 := ⟨_, rfl⟩
  have hm : mS D mCl (mA ad G s.heap.size) s.heap ad_935 G_934 H locs := by rw [eG_934, ead_935]; exact hm
  have g_936 := (congrFun eG_934 1000).trans ((va_up_ne _ _ (by decide)).trans g_916)
  have g_937 := (congrFun eG_934 1003).trans ((va_up_ne _ _ (by decide)).trans g_917)
  have g_938 := (congrFun eG_934 1004).trans ((va_up_ne _ _ (by decide)).trans g_918)
  have g_939 := (congrFun eG_934 1005).trans ((va_up_ne _ _ (by decide)).trans g_919)
  have g_940 := (congrFun eG_934 1006).trans ((va_up_ne _ _ (by decide)).trans g_920)
  have g_941 := (congrFun eG_934 1007).trans ((va_up_ne _ _ (by decide)).trans g_921)
  have g_942 := (congrFun eG_934 1008).trans ((va_up_ne _ _ (by decide)).trans g_922)
  have g_943 := (congrFun eG_934 1009).trans ((va_up_ne _ _ (by decide)).trans g_923)
  have g_944 := (congrFun eG_934 1010).trans ((va_up_ne _ _ (by decide)).trans g_924)
  have g_945 := (congrFun eG_934 1011).trans ((va_up_ne _ _ (by decide)).trans g_925)
  have g_946 := (congrFun eG_934 1012).trans ((va_up_ne _ _ (by decide)).trans g_926)
  have g_947 := (congrFun eG_934 1013).trans ((va_up_ne _ _ (by decide)).trans g_927)
  have g_948 := (congrFun eG_934 1014).trans ((va_up_ne _ _ (by decide)).trans g_928)
  have g_949 := (congrFun eG_934 1015).trans ((va_up_ne _ _ (by decide)).trans g_929)
  have g_950 := (congrFun eG_934 1016).trans ((va_up_ne _ _ (by decide)).trans g_930)
  have g_951 := (congrFun eG_934 1021).trans ((va_up_ne _ _ (by decide)).trans g_931)
  have g_952 := (congrFun eG_934 1022).trans ((va_up_ne _ _ (by decide)).trans g_932)
  have g_953 : G_934 1023 = some (.inl ((dA 0), 12, .inl (fun _ => 0))) := by rw [eG_934, va_up_self]
  have z_954 : a0 = ad_935 1000 := by rw [ead_935, va_up_ne _ _ (by decide)]; exact z_898
  have z_955 : q_1 = ad_935 1003 := by rw [ead_935, va_up_ne _ _ (by decide)]; exact z_899
  have z_956 : q_11 = ad_935 1004 := by rw [ead_935, va_up_ne _ _ (by decide)]; exact z_900
  have z_957 : q_24 = ad_935 1005 := by rw [ead_935, va_up_ne _ _ (by decide)]; exact z_901
  have z_958 : q_40 = ad_935 1006 := by rw [ead_935, va_up_ne _ _ (by decide)]; exact z_902
  have z_959 : q_59 = ad_935 1007 := by rw [ead_935, va_up_ne _ _ (by decide)]; exact z_903
  have z_960 : q_81 = ad_935 1008 := by rw [ead_935, va_up_ne _ _ (by decide)]; exact z_904
  have z_961 : q_106 = ad_935 1009 := by rw [ead_935, va_up_ne _ _ (by decide)]; exact z_905
  have z_962 : q_134 = ad_935 1010 := by rw [ead_935, va_up_ne _ _ (by decide)]; exact z_906
  have z_963 : q_165 = ad_935 1011 := by rw [ead_935, va_up_ne _ _ (by decide)]; exact z_907
  have z_964 : q_375 = ad_935 1012 := by rw [ead_935, va_up_ne _ _ (by decide)]; exact z_908
  have z_965 : q_460 = ad_935 1013 := by rw [ead_935, va_up_ne _ _ (by decide)]; exact z_909
  have z_966 : q_500 = ad_935 1014 := by rw [ead_935, va_up_ne _ _ (by decide)]; exact z_910
  have z_967 : q_543 = ad_935 1015 := by rw [ead_935, va_up_ne _ _ (by decide)]; exact z_911
  have z_968 : q_649 = ad_935 1016 := by rw [ead_935, va_up_ne _ _ (by decide)]; exact z_912
  have z_969 : q_826 = ad_935 1021 := by rw [ead_935, va_up_ne _ _ (by decide)]; exact z_913
  have z_970 : q_878 = ad_935 1022 := by rw [ead_935, va_up_ne _ _ (by decide)]; exact z_914
  have z_971 : q_933 = ad_935 1023 := by rw [ead_935, va_up_self]
  refine lv_dup hx hb d_M_init_291 rfl ?_
  refine lv_iconst (v := 0) hx hb d_M_init_292 (by decide) ?_
  refine lv_iconst (v := (-1)) hx hb d_M_init_293 (by decide) ?_
  refine m_iast hx hb hC.1 hm 1023 z_971 0 g_953 rfl (vpc _ _ (by decide)) d_M_init_294 (fun H locs hm => ?_)
  obtain ⟨G_972, eG_972⟩ : ∃ z : mG, z = va_up G_934 1023 (some (.inl ((dA 0), 12, .inl (upd (fun _ => 0) 0 (-1))))) := ⟨_, rfl⟩
  have hm : mS D mCl (mA ad G s.heap.size) s.heap ad_935 G_972 H locs := by rw [eG_972]; exact hm
  have g_973 := (congrFun eG_972 1000).trans ((va_up_ne _ _ (by decide)).trans g_936)
  have g_974 := (congrFun eG_972 1003).trans ((va_up_ne _ _ (by decide)).trans g_937)
  have g_975 := (congrFun eG_972 1004).trans ((va_up_ne _ _ (by decide)).trans g_938)
  have g_976 := (congrFun eG_972 1005).trans ((va_up_ne _ _ (by decide)).trans g_939)
  have g_977 := (congrFun eG_972 1006).trans ((va_up_ne _ _ (by decide)).trans g_940)
  have g_978 := (congrFun eG_972 1007).trans ((va_up_ne _ _ (by decide)).trans g_941)
  have g_979 := (congrFun eG_972 1008).trans ((va_up_ne _ _ (by decide)).trans g_942)
  have g_980 := (congrFun eG_972 1009).trans ((va_up_ne _ _ (by decide)).trans g_943)
  have g_981 := (congrFun eG_972 1010).trans ((va_up_ne _ _ (by decide)).trans g_944)
  have g_982 := (congrFun eG_972 1011).trans ((va_up_ne _ _ (by decide)).trans g_945)
  have g_983 := (congrFun eG_972 1012).trans ((va_up_ne _ _ (by decide)).trans g_946)
  have g_984 := (congrFun eG_972 1013).trans ((va_up_ne _ _ (by decide)).trans g_947)
  have g_985 := (congrFun eG_972 1014).trans ((va_up_ne _ _ (by decide)).trans g_948)
  have g_986 := (congrFun eG_972 1015).trans ((va_up_ne _ _ (by decide)).trans g_949)
  have g_987 := (congrFun eG_972 1016).trans ((va_up_ne _ _ (by decide)).trans g_950)
  have g_988 := (congrFun eG_972 1021).trans ((va_up_ne _ _ (by decide)).trans g_951)
  have g_989 := (congrFun eG_972 1022).trans ((va_up_ne _ _ (by decide)).trans g_952)
  have g_990 : G_972 1023 = some (.inl ((dA 0), 12, .inl (upd (fun _ => 0) 0 (-1)))) := by rw [eG_972, va_up_self]
  refine lv_dup hx hb d_M_init_295 rfl ?_
  refine lv_iconst (v := 1) hx hb d_M_init_296 (by decide) ?_
  refine lv_iconst (v := (-1)) hx hb d_M_init_297 (by decide) ?_
  refine m_iast hx hb hC.1 hm 1023 z_971 0 g_990 rfl (vpc _ _ (by decide)) d_M_init_298 (fun H locs hm => ?_)
  obtain ⟨G_991, eG_991⟩ : ∃ z : mG, z = va_up G_972 1023 (some (.inl ((dA 0), 12, .inl (upd (upd (fun _ => 0) 0 (-1)) 1 (-1))))) := ⟨_, rfl⟩
  have hm : mS D mCl (mA ad G s.heap.size) s.heap ad_935 G_991 H locs := by rw [eG_991]; exact hm
  have g_992 := (congrFun eG_991 1000).trans ((va_up_ne _ _ (by decide)).trans g_973)
  have g_993 := (congrFun eG_991 1003).trans ((va_up_ne _ _ (by decide)).trans g_974)
  have g_994 := (congrFun eG_991 1004).trans ((va_up_ne _ _ (by decide)).trans g_975)
  have g_995 := (congrFun eG_991 1005).trans ((va_up_ne _ _ (by decide)).trans g_976)
  have g_996 := (congrFun eG_991 1006).trans ((va_up_ne _ _ (by decide)).trans g_977)
  have g_997 := (congrFun eG_991 1007).trans ((va_up_ne _ _ (by decide)).trans g_978)
  have g_998 := (congrFun eG_991 1008).trans ((va_up_ne _ _ (by decide)).trans g_979)
  have g_999 := (congrFun eG_991 1009).trans ((va_up_ne _ _ (by decide)).trans g_980)
  have g_1000 := (congrFun eG_991 1010).trans ((va_up_ne _ _ (by decide)).trans g_981)
  have g_1001 := (congrFun eG_991 1011).trans ((va_up_ne _ _ (by decide)).trans g_982)
  have g_1002 := (congrFun eG_991 1012).trans ((va_up_ne _ _ (by decide)).trans g_983)
  have g_1003 := (congrFun eG_991 1013).trans ((va_up_ne _ _ (by decide)).trans g_984)
  have g_1004 := (congrFun eG_991 1014).trans ((va_up_ne _ _ (by decide)).trans g_985)
  have g_1005 := (congrFun eG_991 1015).trans ((va_up_ne _ _ (by decide)).trans g_986)
  have g_1006 := (congrFun eG_991 1016).trans ((va_up_ne _ _ (by decide)).trans g_987)
  have g_1007 := (congrFun eG_991 1021).trans ((va_up_ne _ _ (by decide)).trans g_988)
  have g_1008 := (congrFun eG_991 1022).trans ((va_up_ne _ _ (by decide)).trans g_989)
  have g_1009 : G_991 1023 = some (.inl ((dA 0), 12, .inl (upd (upd (fun _ => 0) 0 (-1)) 1 (-1)))) := by rw [eG_991, va_up_self]
  refine lv_dup hx hb d_M_init_299 rfl ?_
  refine lv_iconst (v := 2) hx hb d_M_init_300 (by decide) ?_
  refine lv_iconst (v := (-1)) hx hb d_M_init_301 (by decide) ?_
  refine m_iast hx hb hC.1 hm 1023 z_971 0 g_1009 rfl (vpc _ _ (by decide)) d_M_init_302 (fun H locs hm => ?_)
  obtain ⟨G_1010, eG_1010⟩ : ∃ z : mG, z = va_up G_991 1023 (some (.inl ((dA 0), 12, .inl (upd (upd (upd (fun _ => 0) 0 (-1)) 1 (-1)) 2 (-1))))) := ⟨_, rfl⟩
  have hm : mS D mCl (mA ad G s.heap.size) s.heap ad_935 G_1010 H locs := by rw [eG_1010]; exact hm
  have g_1011 := (congrFun eG_1010 1000).trans ((va_up_ne _ _ (by decide)).trans g_992)
  have g_1012 := (congrFun eG_1010 1003).trans ((va_up_ne _ _ (by decide)).trans g_993)
  have g_1013 := (congrFun eG_1010 1004).trans ((va_up_ne _ _ (by decide)).trans g_994)
  have g_1014 := (congrFun eG_1010 1005).trans ((va_up_ne _ _ (by decide)).trans g_995)
  have g_1015 := (congrFun eG_1010 1006).trans ((va_up_ne _ _ (by decide)).trans g_996)
  have g_1016 := (congrFun eG_1010 1007).trans ((va_up_ne _ _ (by decide)).trans g_997)
  have g_1017 := (congrFun eG_1010 1008).trans ((va_up_ne _ _ (by decide)).trans g_998)
  have g_1018 := (congrFun eG_1010 1009).trans ((va_up_ne _ _ (by decide)).trans g_999)
  have g_1019 := (congrFun eG_1010 1010).trans ((va_up_ne _ _ (by decide)).trans g_1000)
  have g_1020 := (congrFun eG_1010 1011).trans ((va_up_ne _ _ (by decide)).trans g_1001)
  have g_1021 := (congrFun eG_1010 1012).trans ((va_up_ne _ _ (by decide)).trans g_1002)
  have g_1022 := (congrFun eG_1010 1013).trans ((va_up_ne _ _ (by decide)).trans g_1003)
  have g_1023 := (congrFun eG_1010 1014).trans ((va_up_ne _ _ (by decide)).trans g_1004)
  have g_1024 := (congrFun eG_1010 1015).trans ((va_up_ne _ _ (by decide)).trans g_1005)
  have g_1025 := (congrFun eG_1010 1016).trans ((va_up_ne _ _ (by decide)).trans g_1006)
  have g_1026 := (congrFun eG_1010 1021).trans ((va_up_ne _ _ (by decide)).trans g_1007)
  have g_1027 := (congrFun eG_1010 1022).trans ((va_up_ne _ _ (by decide)).trans g_1008)
  have g_1028 : G_1010 1023 = some (.inl ((dA 0), 12, .inl (upd (upd (upd (fun _ => 0) 0 (-1)) 1 (-1)) 2 (-1)))) := by rw [eG_1010, va_up_self]
  refine lv_dup hx hb d_M_init_303 rfl ?_
  refine lv_iconst (v := 3) hx hb d_M_init_304 (by decide) ?_
  refine lv_iconst (v := (-1)) hx hb d_M_init_305 (by decide) ?_
  refine m_iast hx hb hC.1 hm 1023 z_971 0 g_1028 rfl (vpc _ _ (by decide)) d_M_init_306 (fun H locs hm => ?_)
  obtain ⟨G_1029, eG_1029⟩ : ∃ z : mG, z = va_up G_1010 1023 (some (.inl ((dA 0), 12, .inl (upd (upd (upd (upd (fun _ => 0) 0 (-1)) 1 (-1)) 2 (-1)) 3 (-1))))) := ⟨_, rfl⟩
  have hm : mS D mCl (mA ad G s.heap.size) s.heap ad_935 G_1029 H locs := by rw [eG_1029]; exact hm
  have g_1030 := (congrFun eG_1029 1000).trans ((va_up_ne _ _ (by decide)).trans g_1011)
  have g_1031 := (congrFun eG_1029 1003).trans ((va_up_ne _ _ (by decide)).trans g_1012)
  have g_1032 := (congrFun eG_1029 1004).trans ((va_up_ne _ _ (by decide)).trans g_1013)
  have g_1033 := (congrFun eG_1029 1005).trans ((va_up_ne _ _ (by decide)).trans g_1014)
  have g_1034 := (congrFun eG_1029 1006).trans ((va_up_ne _ _ (by decide)).trans g_1015)
  have g_1035 := (congrFun eG_1029 1007).trans ((va_up_ne _ _ (by decide)).trans g_1016)
  have g_1036 := (congrFun eG_1029 1008).trans ((va_up_ne _ _ (by decide)).trans g_1017)
  have g_1037 := (congrFun eG_1029 1009).trans ((va_up_ne _ _ (by decide)).trans g_1018)
  have g_1038 := (congrFun eG_1029 1010).trans ((va_up_ne _ _ (by decide)).trans g_1019)
  have g_1039 := (congrFun eG_1029 1011).trans ((va_up_ne _ _ (by decide)).trans g_1020)
  have g_1040 := (congrFun eG_1029 1012).trans ((va_up_ne _ _ (by decide)).trans g_1021)
  have g_1041 := (congrFun eG_1029 1013).trans ((va_up_ne _ _ (by decide)).trans g_1022)
  have g_1042 := (congrFun eG_1029 1014).trans ((va_up_ne _ _ (by decide)).trans g_1023)
  have g_1043 := (congrFun eG_1029 1015).trans ((va_up_ne _ _ (by decide)).trans g_1024)
  have g_1044 := (congrFun eG_1029 1016).trans ((va_up_ne _ _ (by decide)).trans g_1025)
  have g_1045 := (congrFun eG_1029 1021).trans ((va_up_ne _ _ (by decide)).trans g_1026)
  have g_1046 := (congrFun eG_1029 1022).trans ((va_up_ne _ _ (by decide)).trans g_1027)
  have g_1047 : G_1029 1023 = some (.inl ((dA 0), 12, .inl (upd (upd (upd (upd (fun _ => 0) 0 (-1)) 1 (-1)) 2 (-1)) 3 (-1)))) := by rw [eG_1029, va_up_self]
  refine lv_dup hx hb d_M_init_307 rfl ?_
  refine lv_iconst (v := 4) hx hb d_M_init_308 (by decide) ?_
  refine lv_iconst (v := (-1)) hx hb d_M_init_309 (by decide) ?_
  refine m_iast hx hb hC.1 hm 1023 z_971 0 g_1047 rfl (vpc _ _ (by decide)) d_M_init_310 (fun H locs hm => ?_)
  obtain ⟨G_1048, eG_1048⟩ : ∃ z : mG, z = va_up G_1029 1023 (some (.inl ((dA 0), 12, .inl (upd (upd (upd (upd (upd (fun _ => 0) 0 (-1)) 1 (-1)) 2 (-1)) 3 (-1)) 4 (-1))))) := ⟨_, rfl⟩
  have hm : mS D mCl (mA ad G s.heap.size) s.heap ad_935 G_1048 H locs := by rw [eG_1048]; exact hm
  have g_1049 := (congrFun eG_1048 1000).trans ((va_up_ne _ _ (by decide)).trans g_1030)
  have g_1050 := (congrFun eG_1048 1003).trans ((va_up_ne _ _ (by decide)).trans g_1031)
  have g_1051 := (congrFun eG_1048 1004).trans ((va_up_ne _ _ (by decide)).trans g_1032)
  have g_1052 := (congrFun eG_1048 1005).trans ((va_up_ne _ _ (by decide)).trans g_1033)
  have g_1053 := (congrFun eG_1048 1006).trans ((va_up_ne _ _ (by decide)).trans g_1034)
  have g_1054 := (congrFun eG_1048 1007).trans ((va_up_ne _ _ (by decide)).trans g_1035)
  have g_1055 := (congrFun eG_1048 1008).trans ((va_up_ne _ _ (by decide)).trans g_1036)
  have g_1056 := (congrFun eG_1048 1009).trans ((va_up_ne _ _ (by decide)).trans g_1037)
  have g_1057 := (congrFun eG_1048 1010).trans ((va_up_ne _ _ (by decide)).trans g_1038)
  have g_1058 := (congrFun eG_1048 1011).trans ((va_up_ne _ _ (by decide)).trans g_1039)
  have g_1059 := (congrFun eG_1048 1012).trans ((va_up_ne _ _ (by decide)).trans g_1040)
  have g_1060 := (congrFun eG_1048 1013).trans ((va_up_ne _ _ (by decide)).trans g_1041)
  have g_1061 := (congrFun eG_1048 1014).trans ((va_up_ne _ _ (by decide)).trans g_1042)
  have g_1062 := (congrFun eG_1048 1015).trans ((va_up_ne _ _ (by decide)).trans g_1043)
  have g_1063 := (congrFun eG_1048 1016).trans ((va_up_ne _ _ (by decide)).trans g_1044)
  have g_1064 := (congrFun eG_1048 1021).trans ((va_up_ne _ _ (by decide)).trans g_1045)
  have g_1065 := (congrFun eG_1048 1022).trans ((va_up_ne _ _ (by decide)).trans g_1046)
  have g_1066 : G_1048 1023 = some (.inl ((dA 0), 12, .inl (upd (upd (upd (upd (upd (fun _ => 0) 0 (-1)) 1 (-1)) 2 (-1)) 3 (-1)) 4 (-1)))) := by rw [eG_1048, va_up_self]
  refine lv_dup hx hb d_M_init_311 rfl ?_
  refine lv_iconst (v := 5) hx hb d_M_init_312 (by decide) ?_
  refine lv_iconst (v := (-1)) hx hb d_M_init_313 (by decide) ?_
  refine m_iast hx hb hC.1 hm 1023 z_971 0 g_1066 rfl (vpc _ _ (by decide)) d_M_init_314 (fun H locs hm => ?_)
  obtain ⟨G_1067, eG_1067⟩ : ∃ z : mG, z = va_up G_1048 1023 (some (.inl ((dA 0), 12, .inl (upd (upd (upd (upd (upd (upd (fun _ => 0) 0 (-1)) 1 (-1)) 2 (-1)) 3 (-1)) 4 (-1)) 5 (-1))))) := ⟨_, rfl⟩
  have hm : mS D mCl (mA ad G s.heap.size) s.heap ad_935 G_1067 H locs := by rw [eG_1067]; exact hm
  have g_1068 := (congrFun eG_1067 1000).trans ((va_up_ne _ _ (by decide)).trans g_1049)
  have g_1069 := (congrFun eG_1067 1003).trans ((va_up_ne _ _ (by decide)).trans g_1050)
  have g_1070 := (congrFun eG_1067 1004).trans ((va_up_ne _ _ (by decide)).trans g_1051)
  have g_1071 := (congrFun eG_1067 1005).trans ((va_up_ne _ _ (by decide)).trans g_1052)
  have g_1072 := (congrFun eG_1067 1006).trans ((va_up_ne _ _ (by decide)).trans g_1053)
  have g_1073 := (congrFun eG_1067 1007).trans ((va_up_ne _ _ (by decide)).trans g_1054)
  have g_1074 := (congrFun eG_1067 1008).trans ((va_up_ne _ _ (by decide)).trans g_1055)
  have g_1075 := (congrFun eG_1067 1009).trans ((va_up_ne _ _ (by decide)).trans g_1056)
  have g_1076 := (congrFun eG_1067 1010).trans ((va_up_ne _ _ (by decide)).trans g_1057)
  have g_1077 := (congrFun eG_1067 1011).trans ((va_up_ne _ _ (by decide)).trans g_1058)
  have g_1078 := (congrFun eG_1067 1012).trans ((va_up_ne _ _ (by decide)).trans g_1059)
  have g_1079 := (congrFun eG_1067 1013).trans ((va_up_ne _ _ (by decide)).trans g_1060)
  have g_1080 := (congrFun eG_1067 1014).trans ((va_up_ne _ _ (by decide)).trans g_1061)
  have g_1081 := (congrFun eG_1067 1015).trans ((va_up_ne _ _ (by decide)).trans g_1062)
  have g_1082 := (congrFun eG_1067 1016).trans ((va_up_ne _ _ (by decide)).trans g_1063)
  have g_1083 := (congrFun eG_1067 1021).trans ((va_up_ne _ _ (by decide)).trans g_1064)
  have g_1084 := (congrFun eG_1067 1022).trans ((va_up_ne _ _ (by decide)).trans g_1065)
  have g_1085 : G_1067 1023 = some (.inl ((dA 0), 12, .inl (upd (upd (upd (upd (upd (upd (fun _ => 0) 0 (-1)) 1 (-1)) 2 (-1)) 3 (-1)) 4 (-1)) 5 (-1)))) := by rw [eG_1067, va_up_self]
  refine lv_dup hx hb d_M_init_315 rfl ?_
  refine lv_bipush (v := 6) hx hb d_M_init_316 (by decide) ?_
  refine lv_iconst (v := (-1)) hx hb d_M_init_318 (by decide) ?_
  refine m_iast hx hb hC.1 hm 1023 z_971 0 g_1085 rfl (vpc _ _ (by decide)) d_M_init_319 (fun H locs hm => ?_)
  obtain ⟨G_1086, eG_1086⟩ : ∃ z : mG, z = va_up G_1067 1023 (some (.inl ((dA 0), 12, .inl (upd (upd (upd (upd (upd (upd (upd (fun _ => 0) 0 (-1)) 1 (-1)) 2 (-1)) 3 (-1)) 4 (-1)) 5 (-1)) 6 (-1))))) := ⟨_, rfl⟩
  have hm : mS D mCl (mA ad G s.heap.size) s.heap ad_935 G_1086 H locs := by rw [eG_1086]; exact hm
  have g_1087 := (congrFun eG_1086 1000).trans ((va_up_ne _ _ (by decide)).trans g_1068)
  have g_1088 := (congrFun eG_1086 1003).trans ((va_up_ne _ _ (by decide)).trans g_1069)
  have g_1089 := (congrFun eG_1086 1004).trans ((va_up_ne _ _ (by decide)).trans g_1070)
  have g_1090 := (congrFun eG_1086 1005).trans ((va_up_ne _ _ (by decide)).trans g_1071)
  have g_1091 := (congrFun eG_1086 1006).trans ((va_up_ne _ _ (by decide)).trans g_1072)
  have g_1092 := (congrFun eG_1086 1007).trans ((va_up_ne _ _ (by decide)).trans g_1073)
  have g_1093 := (congrFun eG_1086 1008).trans ((va_up_ne _ _ (by decide)).trans g_1074)
  have g_1094 := (congrFun eG_1086 1009).trans ((va_up_ne _ _ (by decide)).trans g_1075)
  have g_1095 := (congrFun eG_1086 1010).trans ((va_up_ne _ _ (by decide)).trans g_1076)
  have g_1096 := (congrFun eG_1086 1011).trans ((va_up_ne _ _ (by decide)).trans g_1077)
  have g_1097 := (congrFun eG_1086 1012).trans ((va_up_ne _ _ (by decide)).trans g_1078)
  have g_1098 := (congrFun eG_1086 1013).trans ((va_up_ne _ _ (by decide)).trans g_1079)
  have g_1099 := (congrFun eG_1086 1014).trans ((va_up_ne _ _ (by decide)).trans g_1080)
  have g_1100 := (congrFun eG_1086 1015).trans ((va_up_ne _ _ (by decide)).trans g_1081)
  have g_1101 := (congrFun eG_1086 1016).trans ((va_up_ne _ _ (by decide)).trans g_1082)
  have g_1102 := (congrFun eG_1086 1021).trans ((va_up_ne _ _ (by decide)).trans g_1083)
  have g_1103 := (congrFun eG_1086 1022).trans ((va_up_ne _ _ (by decide)).trans g_1084)
  have g_1104 : G_1086 1023 = some (.inl ((dA 0), 12, .inl (upd (upd (upd (upd (upd (upd (upd (fun _ => 0) 0 (-1)) 1 (-1)) 2 (-1)) 3 (-1)) 4 (-1)) 5 (-1)) 6 (-1)))) := by rw [eG_1086, va_up_self]
  refine lv_dup hx hb d_M_init_320 rfl ?_
  refine lv_bipush (v := 7) hx hb d_M_init_321 (by decide) ?_
  refine lv_iconst (v := (-1)) hx hb d_M_init_323 (by decide) ?_
  refine m_iast hx hb hC.1 hm 1023 z_971 0 g_1104 rfl (vpc _ _ (by decide)) d_M_init_324 (fun H locs hm => ?_)
  obtain ⟨G_1105, eG_1105⟩ : ∃ z : mG, z = va_up G_1086 1023 (some (.inl ((dA 0), 12, .inl (upd (upd (upd (upd (upd (upd (upd (upd (fun _ => 0) 0 (-1)) 1 (-1)) 2 (-1)) 3 (-1)) 4 (-1)) 5 (-1)) 6 (-1)) 7 (-1))))) := ⟨_, rfl⟩
  have hm : mS D mCl (mA ad G s.heap.size) s.heap ad_935 G_1105 H locs := by rw [eG_1105]; exact hm
  have g_1106 := (congrFun eG_1105 1000).trans ((va_up_ne _ _ (by decide)).trans g_1087)
  have g_1107 := (congrFun eG_1105 1003).trans ((va_up_ne _ _ (by decide)).trans g_1088)
  have g_1108 := (congrFun eG_1105 1004).trans ((va_up_ne _ _ (by decide)).trans g_1089)
  have g_1109 := (congrFun eG_1105 1005).trans ((va_up_ne _ _ (by decide)).trans g_1090)
  have g_1110 := (congrFun eG_1105 1006).trans ((va_up_ne _ _ (by decide)).trans g_1091)
  have g_1111 := (congrFun eG_1105 1007).trans ((va_up_ne _ _ (by decide)).trans g_1092)
  have g_1112 := (congrFun eG_1105 1008).trans ((va_up_ne _ _ (by decide)).trans g_1093)
  have g_1113 := (congrFun eG_1105 1009).trans ((va_up_ne _ _ (by decide)).trans g_1094)
  have g_1114 := (congrFun eG_1105 1010).trans ((va_up_ne _ _ (by decide)).trans g_1095)
  have g_1115 := (congrFun eG_1105 1011).trans ((va_up_ne _ _ (by decide)).trans g_1096)
  have g_1116 := (congrFun eG_1105 1012).trans ((va_up_ne _ _ (by decide)).trans g_1097)
  have g_1117 := (congrFun eG_1105 1013).trans ((va_up_ne _ _ (by decide)).trans g_1098)
  have g_1118 := (congrFun eG_1105 1014).trans ((va_up_ne _ _ (by decide)).trans g_1099)
  have g_1119 := (congrFun eG_1105 1015).trans ((va_up_ne _ _ (by decide)).trans g_1100)
  have g_1120 := (congrFun eG_1105 1016).trans ((va_up_ne _ _ (by decide)).trans g_1101)
  have g_1121 := (congrFun eG_1105 1021).trans ((va_up_ne _ _ (by decide)).trans g_1102)
  have g_1122 := (congrFun eG_1105 1022).trans ((va_up_ne _ _ (by decide)).trans g_1103)
  have g_1123 : G_1105 1023 = some (.inl ((dA 0), 12, .inl (upd (upd (upd (upd (upd (upd (upd (upd (fun _ => 0) 0 (-1)) 1 (-1)) 2 (-1)) 3 (-1)) 4 (-1)) 5 (-1)) 6 (-1)) 7 (-1)))) := by rw [eG_1105, va_up_self]
  refine lv_dup hx hb d_M_init_325 rfl ?_
  refine lv_bipush (v := 8) hx hb d_M_init_326 (by decide) ?_
  refine lv_iconst (v := (-1)) hx hb d_M_init_328 (by decide) ?_
  refine m_iast hx hb hC.1 hm 1023 z_971 0 g_1123 rfl (vpc _ _ (by decide)) d_M_init_329 (fun H locs hm => ?_)
  obtain ⟨G_1124, eG_1124⟩ : ∃ z : mG, z = va_up G_1105 1023 (some (.inl ((dA 0), 12, .inl (upd (upd (upd (upd (upd (upd (upd (upd (upd (fun _ => 0) 0 (-1)) 1 (-1)) 2 (-1)) 3 (-1)) 4 (-1)) 5 (-1)) 6 (-1)) 7 (-1)) 8 (-1))))) := ⟨_, rfl⟩
  have hm : mS D mCl (mA ad G s.heap.size) s.heap ad_935 G_1124 H locs := by rw [eG_1124]; exact hm
  have g_1125 := (congrFun eG_1124 1000).trans ((va_up_ne _ _ (by decide)).trans g_1106)
  have g_1126 := (congrFun eG_1124 1003).trans ((va_up_ne _ _ (by decide)).trans g_1107)
  have g_1127 := (congrFun eG_1124 1004).trans ((va_up_ne _ _ (by decide)).trans g_1108)
  have g_1128 := (congrFun eG_1124 1005).trans ((va_up_ne _ _ (by decide)).trans g_1109)
  have g_1129 := (congrFun eG_1124 1006).trans ((va_up_ne _ _ (by decide)).trans g_1110)
  have g_1130 := (congrFun eG_1124 1007).trans ((va_up_ne _ _ (by decide)).trans g_1111)
  have g_1131 := (congrFun eG_1124 1008).trans ((va_up_ne _ _ (by decide)).trans g_1112)
  have g_1132 := (congrFun eG_1124 1009).trans ((va_up_ne _ _ (by decide)).trans g_1113)
  have g_1133 := (congrFun eG_1124 1010).trans ((va_up_ne _ _ (by decide)).trans g_1114)
  have g_1134 := (congrFun eG_1124 1011).trans ((va_up_ne _ _ (by decide)).trans g_1115)
  have g_1135 := (congrFun eG_1124 1012).trans ((va_up_ne _ _ (by decide)).trans g_1116)
  have g_1136 := (congrFun eG_1124 1013).trans ((va_up_ne _ _ (by decide)).trans g_1117)
  have g_1137 := (congrFun eG_1124 1014).trans ((va_up_ne _ _ (by decide)).trans g_1118)
  have g_1138 := (congrFun eG_1124 1015).trans ((va_up_ne _ _ (by decide)).trans g_1119)
  have g_1139 := (congrFun eG_1124 1016).trans ((va_up_ne _ _ (by decide)).trans g_1120)
  have g_1140 := (congrFun eG_1124 1021).trans ((va_up_ne _ _ (by decide)).trans g_1121)
  have g_1141 := (congrFun eG_1124 1022).trans ((va_up_ne _ _ (by decide)).trans g_1122)
  have g_1142 : G_1124 1023 = some (.inl ((dA 0), 12, .inl (upd (upd (upd (upd (upd (upd (upd (upd (upd (fun _ => 0) 0 (-1)) 1 (-1)) 2 (-1)) 3 (-1)) 4 (-1)) 5 (-1)) 6 (-1)) 7 (-1)) 8 (-1)))) := by rw [eG_1124, va_up_self]
  refine lv_dup hx hb d_M_init_330 rfl ?_
  refine lv_bipush (v := 9) hx hb d_M_init_331 (by decide) ?_
  refine lv_iconst (v := (-1)) hx hb d_M_init_333 (by decide) ?_
  refine m_iast hx hb hC.1 hm 1023 z_971 0 g_1142 rfl (vpc _ _ (by decide)) d_M_init_334 (fun H locs hm => ?_)
  obtain ⟨G_1143, eG_1143⟩ : ∃ z : mG, z = va_up G_1124 1023 (some (.inl ((dA 0), 12, .inl (upd (upd (upd (upd (upd (upd (upd (upd (upd (upd (fun _ => 0) 0 (-1)) 1 (-1)) 2 (-1)) 3 (-1)) 4 (-1)) 5 (-1)) 6 (-1)) 7 (-1)) 8 (-1)) 9 (-1))))) := ⟨_, rfl⟩
  have hm : mS D mCl (mA ad G s.heap.size) s.heap ad_935 G_1143 H locs := by rw [eG_1143]; exact hm
  have g_1144 := (congrFun eG_1143 1000).trans ((va_up_ne _ _ (by decide)).trans g_1125)
  have g_1145 := (congrFun eG_1143 1003).trans ((va_up_ne _ _ (by decide)).trans g_1126)
  have g_1146 := (congrFun eG_1143 1004).trans ((va_up_ne _ _ (by decide)).trans g_1127)
  have g_1147 := (congrFun eG_1143 1005).trans ((va_up_ne _ _ (by decide)).trans g_1128)
  have g_1148 := (congrFun eG_1143 1006).trans ((va_up_ne _ _ (by decide)).trans g_1129)
  have g_1149 := (congrFun eG_1143 1007).trans ((va_up_ne _ _ (by decide)).trans g_1130)
  have g_1150 := (congrFun eG_1143 1008).trans ((va_up_ne _ _ (by decide)).trans g_1131)
  have g_1151 := (congrFun eG_1143 1009).trans ((va_up_ne _ _ (by decide)).trans g_1132)
  have g_1152 := (congrFun eG_1143 1010).trans ((va_up_ne _ _ (by decide)).trans g_1133)
  have g_1153 := (congrFun eG_1143 1011).trans ((va_up_ne _ _ (by decide)).trans g_1134)
  have g_1154 := (congrFun eG_1143 1012).trans ((va_up_ne _ _ (by decide)).trans g_1135)
  have g_1155 := (congrFun eG_1143 1013).trans ((va_up_ne _ _ (by decide)).trans g_1136)
  have g_1156 := (congrFun eG_1143 1014).trans ((va_up_ne _ _ (by decide)).trans g_1137)
  have g_1157 := (congrFun eG_1143 1015).trans ((va_up_ne _ _ (by decide)).trans g_1138)
  have g_1158 := (congrFun eG_1143 1016).trans ((va_up_ne _ _ (by decide)).trans g_1139)
  have g_1159 := (congrFun eG_1143 1021).trans ((va_up_ne _ _ (by decide)).trans g_1140)
  have g_1160 := (congrFun eG_1143 1022).trans ((va_up_ne _ _ (by decide)).trans g_1141)
  have g_1161 : G_1143 1023 = some (.inl ((dA 0), 12, .inl (upd (upd (upd (upd (upd (upd (upd (upd (upd (upd (fun _ => 0) 0 (-1)) 1 (-1)) 2 (-1)) 3 (-1)) 4 (-1)) 5 (-1)) 6 (-1)) 7 (-1)) 8 (-1)) 9 (-1)))) := by rw [eG_1143, va_up_self]
  refine lv_dup hx hb d_M_init_335 rfl ?_
  refine lv_bipush (v := 10) hx hb d_M_init_336 (by decide) ?_
  refine lv_iconst (v := (-1)) hx hb d_M_init_338 (by decide) ?_
  refine m_iast hx hb hC.1 hm 1023 z_971 0 g_1161 rfl (vpc _ _ (by decide)) d_M_init_339 (fun H locs hm => ?_)
  obtain ⟨G_1162, eG_1162⟩ : ∃ z : mG, z = va_up G_1143 1023 (some (.inl ((dA 0), 12, .inl (upd (upd (upd (upd (upd (upd (upd (upd (upd (upd (upd (fun _ => 0) 0 (-1)) 1 (-1)) 2 (-1)) 3 (-1)) 4 (-1)) 5 (-1)) 6 (-1)) 7 (-1)) 8 (-1)) 9 (-1)) 10 (-1))))) := ⟨_, rfl⟩
  have hm : mS D mCl (mA ad G s.heap.size) s.heap ad_935 G_1162 H locs := by rw [eG_1162]; exact hm
  have g_1163 := (congrFun eG_1162 1000).trans ((va_up_ne _ _ (by decide)).trans g_1144)
  have g_1164 := (congrFun eG_1162 1003).trans ((va_up_ne _ _ (by decide)).trans g_1145)
  have g_1165 := (congrFun eG_1162 1004).trans ((va_up_ne _ _ (by decide)).trans g_1146)
  have g_1166 := (congrFun eG_1162 1005).trans ((va_up_ne _ _ (by decide)).trans g_1147)
  have g_1167 := (congrFun eG_1162 1006).trans ((va_up_ne _ _ (by decide)).trans g_1148)
  have g_1168 := (congrFun eG_1162 1007).trans ((va_up_ne _ _ (by decide)).trans g_1149)
  have g_1169 := (congrFun eG_1162 1008).trans ((va_up_ne _ _ (by decide)).trans g_1150)
  have g_1170 := (congrFun eG_1162 1009).trans ((va_up_ne _ _ (by decide)).trans g_1151)
  have g_1171 := (congrFun eG_1162 1010).trans ((va_up_ne _ _ (by decide)).trans g_1152)
  have g_1172 := (congrFun eG_1162 1011).trans ((va_up_ne _ _ (by decide)).trans g_1153)
  have g_1173 := (congrFun eG_1162 1012).trans ((va_up_ne _ _ (by decide)).trans g_1154)
  have g_1174 := (congrFun eG_1162 1013).trans ((va_up_ne _ _ (by decide)).trans g_1155)
  have g_1175 := (congrFun eG_1162 1014).trans ((va_up_ne _ _ (by decide)).trans g_1156)
  have g_1176 := (congrFun eG_1162 1015).trans ((va_up_ne _ _ (by decide)).trans g_1157)
  have g_1177 := (congrFun eG_1162 1016).trans ((va_up_ne _ _ (by decide)).trans g_1158)
  have g_1178 := (congrFun eG_1162 1021).trans ((va_up_ne _ _ (by decide)).trans g_1159)
  have g_1179 := (congrFun eG_1162 1022).trans ((va_up_ne _ _ (by decide)).trans g_1160)
  have g_1180 : G_1162 1023 = some (.inl ((dA 0), 12, .inl (upd (upd (upd (upd (upd (upd (upd (upd (upd (upd (upd (fun _ => 0) 0 (-1)) 1 (-1)) 2 (-1)) 3 (-1)) 4 (-1)) 5 (-1)) 6 (-1)) 7 (-1)) 8 (-1)) 9 (-1)) 10 (-1)))) := by rw [eG_1162, va_up_self]
  refine lv_dup hx hb d_M_init_340 rfl ?_
  refine lv_bipush (v := 11) hx hb d_M_init_341 (by decide) ?_
  refine lv_iconst (v := (-1)) hx hb d_M_init_343 (by decide) ?_
  refine m_iast hx hb hC.1 hm 1023 z_971 0 g_1180 rfl (vpc _ _ (by decide)) d_M_init_344 (fun H locs hm => ?_)
  obtain ⟨G_1181, eG_1181⟩ : ∃ z : mG, z = va_up G_1162 1023 (some (.inl ((dA 0), 12, .inl (upd (upd (upd (upd (upd (upd (upd (upd (upd (upd (upd (upd (fun _ => 0) 0 (-1)) 1 (-1)) 2 (-1)) 3 (-1)) 4 (-1)) 5 (-1)) 6 (-1)) 7 (-1)) 8 (-1)) 9 (-1)) 10 (-1)) 11 (-1))))) := ⟨_, rfl⟩
  have hm : mS D mCl (mA ad G s.heap.size) s.heap ad_935 G_1181 H locs := by rw [eG_1181]; exact hm
  have g_1182 := (congrFun eG_1181 1000).trans ((va_up_ne _ _ (by decide)).trans g_1163)
  have g_1183 := (congrFun eG_1181 1003).trans ((va_up_ne _ _ (by decide)).trans g_1164)
  have g_1184 := (congrFun eG_1181 1004).trans ((va_up_ne _ _ (by decide)).trans g_1165)
  have g_1185 := (congrFun eG_1181 1005).trans ((va_up_ne _ _ (by decide)).trans g_1166)
  have g_1186 := (congrFun eG_1181 1006).trans ((va_up_ne _ _ (by decide)).trans g_1167)
  have g_1187 := (congrFun eG_1181 1007).trans ((va_up_ne _ _ (by decide)).trans g_1168)
  have g_1188 := (congrFun eG_1181 1008).trans ((va_up_ne _ _ (by decide)).trans g_1169)
  have g_1189 := (congrFun eG_1181 1009).trans ((va_up_ne _ _ (by decide)).trans g_1170)
  have g_1190 := (congrFun eG_1181 1010).trans ((va_up_ne _ _ (by decide)).trans g_1171)
  have g_1191 := (congrFun eG_1181 1011).trans ((va_up_ne _ _ (by decide)).trans g_1172)
  have g_1192 := (congrFun eG_1181 1012).trans ((va_up_ne _ _ (by decide)).trans g_1173)
  have g_1193 := (congrFun eG_1181 1013).trans ((va_up_ne _ _ (by decide)).trans g_1174)
  have g_1194 := (congrFun eG_1181 1014).trans ((va_up_ne _ _ (by decide)).trans g_1175)
  have g_1195 := (congrFun eG_1181 1015).trans ((va_up_ne _ _ (by decide)).trans g_1176)
  have g_1196 := (congrFun eG_1181 1016).trans ((va_up_ne _ _ (by decide)).trans g_1177)
  have g_1197 := (congrFun eG_1181 1021).trans ((va_up_ne _ _ (by decide)).trans g_1178)
  have g_1198 := (congrFun eG_1181 1022).trans ((va_up_ne _ _ (by decide)).trans g_1179)
  have g_1199 : G_1181 1023 = some (.inl ((dA 0), 12, .inl (upd (upd (upd (upd (upd (upd (upd (upd (upd (upd (upd (upd (fun _ => 0) 0 (-1)) 1 (-1)) 2 (-1)) 3 (-1)) 4 (-1)) 5 (-1)) 6 (-1)) 7 (-1)) 8 (-1)) 9 (-1)) 10 (-1)) 11 (-1)))) := by rw [eG_1181, va_up_self]
  refine m_putF (v := .ref q_933) (ty := (.array .int)) (C := R_M) (T := T_M) (N := 28) hx hb hT in_M t_M tok_M nm_M hown hC.1 hm 1000 z_954 g_1182 rfl 23 (by decide) (hT _ k_613) (fun _ h9 => h9) rfl hin rfl (by decide +kernel) rfl rfl (Nat.le_of_ble_eq_true rfl) d_M_init_345 (fun H locs hm => ?_)
  obtain ⟨G_1200, eG_1200⟩ : ∃ z : mG, z = va_up G_1181 1000 (some (.inr (6, [.int 0, .long 0, .int 0, .ref q_1, .ref q_11, .ref q_24, .ref q_40, .ref q_59, .ref q_81, .ref q_106, .ref q_134, .ref q_165, .ref q_375, .ref q_460, .ref q_500, .ref q_543, .ref q_649, .int 1000, .int 4, .int 500, .int 600, .ref q_826, .ref q_878, .ref q_933, .null, .null, .int 0, .int 0]))) := ⟨_, rfl⟩
  have hm : mS D mCl (mA ad G s.heap.size) s.heap ad_935 G_1200 H locs := by rw [eG_1200]; exact hm
  have g_1201 : G_1200 1000 = some (.inr (6, [.int 0, .long 0, .int 0, .ref q_1, .ref q_11, .ref q_24, .ref q_40, .ref q_59, .ref q_81, .ref q_106, .ref q_134, .ref q_165, .ref q_375, .ref q_460, .ref q_500, .ref q_543, .ref q_649, .int 1000, .int 4, .int 500, .int 600, .ref q_826, .ref q_878, .ref q_933, .null, .null, .int 0, .int 0])) := by rw [eG_1200, va_up_self]
  have g_1202 := (congrFun eG_1200 1003).trans ((va_up_ne _ _ (by decide)).trans g_1183)
  have g_1203 := (congrFun eG_1200 1004).trans ((va_up_ne _ _ (by decide)).trans g_1184)
  have g_1204 := (congrFun eG_1200 1005).trans ((va_up_ne _ _ (by decide)).trans g_1185)
  have g_1205 := (congrFun eG_1200 1006).trans ((va_up_ne _ _ (by decide)).trans g_1186)
  have g_1206 := (congrFun eG_1200 1007).trans ((va_up_ne _ _ (by decide)).trans g_1187)
  have g_1207 := (congrFun eG_1200 1008).trans ((va_up_ne _ _ (by decide)).trans g_1188)
  have g_1208 := (congrFun eG_1200 1009).trans ((va_up_ne _ _ (by decide)).trans g_1189)
  have g_1209 := (congrFun eG_1200 1010).trans ((va_up_ne _ _ (by decide)).trans g_1190)
  have g_1210 := (congrFun eG_1200 1011).trans ((va_up_ne _ _ (by decide)).trans g_1191)
  have g_1211 := (congrFun eG_1200 1012).trans ((va_up_ne _ _ (by decide)).trans g_1192)
  have g_1212 := (congrFun eG_1200 1013).trans ((va_up_ne _ _ (by decide)).trans g_1193)
  have g_1213 := (congrFun eG_1200 1014).trans ((va_up_ne _ _ (by decide)).trans g_1194)
  have g_1214 := (congrFun eG_1200 1015).trans ((va_up_ne _ _ (by decide)).trans g_1195)
  have g_1215 := (congrFun eG_1200 1016).trans ((va_up_ne _ _ (by decide)).trans g_1196)
  have g_1216 := (congrFun eG_1200 1021).trans ((va_up_ne _ _ (by decide)).trans g_1197)
  have g_1217 := (congrFun eG_1200 1022).trans ((va_up_ne _ _ (by decide)).trans g_1198)
  have g_1218 := (congrFun eG_1200 1023).trans ((va_up_ne _ _ (by decide)).trans g_1199)
  refine lv_aload_n hx hb d_M_init_348 rfl (lv_at hl 0 rfl) ?_
  refine lv_bipush (v := 16) hx hb d_M_init_349 (by decide) ?_
  refine m_newa (atype := .int) (ty := .int) (a0 := (16, .inl (fun _ => 0))) (cA := (dA 0)) hx hb (hT _ k_59) rfl hm hA 1024 (by rw [eG_1200, va_up_ne _ _ (by decide), eG_1181, va_up_ne _ _ (by decide), eG_1162, va_up_ne _ _ (by decide), eG_1143, va_up_ne _ _ (by decide), eG_1124, va_up_ne _ _ (by decide), eG_1105, va_up_ne _ _ (by decide), eG_1086, va_up_ne _ _ (by decide), eG_1067, va_up_ne _ _ (by decide), eG_1048, va_up_ne _ _ (by decide), eG_1029, va_up_ne _ _ (by decide), eG_1010, va_up_ne _ _ (by decide), eG_991, va_up_ne _ _ (by decide), eG_972, va_up_ne _ _ (by decide), eG_934, va_up_ne _ _ (by decide), eG_915, va_up_ne _ _ (by decide), eG_879, va_up_ne _ _ (by decide), eG_861, va_up_ne _ _ (by decide), eG_827, va_up_ne _ _ (by decide), eG_810, va_up_ne _ _ (by decide), eG_794, va_up_ne _ _ (by decide), eG_778, va_up_ne _ _ (by decide), eG_762, va_up_ne _ _ (by decide), eG_746, va_up_ne _ _ (by decide), eG_730, va_up_ne _ _ (by decide), eG_714, va_up_ne _ _ (by decide), eG_698, va_up_ne _ _ (by decide), eG_682, va_up_ne _ _ (by decide), eG_650, va_up_ne _ _ (by decide), eG_634, va_up_ne _ _ (by decide), eG_619, va_up_ne _ _ (by decide), eG_604, va_up_ne _ _ (by decide), eG_589, va_up_ne _ _ (by decide), eG_574, va_up_ne _ _ (by decide), eG_544, va_up_ne _ _ (by decide), eG_529, va_up_ne _ _ (by decide), eG_501, va_up_ne _ _ (by decide), eG_487, va_up_ne _ _ (by decide), eG_461, va_up_ne _ _ (by decide), eG_448, va_up_ne _ _ (by decide), eG_436, va_up_ne _ _ (by decide), eG_424, va_up_ne _ _ (by decide), eG_412, va_up_ne _ _ (by decide), eG_400, va_up_ne _ _ (by decide), eG_376, va_up_ne _ _ (by decide), eG_364, va_up_ne _ _ (by decide), eG_353, va_up_ne _ _ (by decide), eG_342, va_up_ne _ _ (by decide), eG_331, va_up_ne _ _ (by decide), eG_320, va_up_ne _ _ (by decide), eG_309, va_up_ne _ _ (by decide), eG_298, va_up_ne _ _ (by decide), eG_287, va_up_ne _ _ (by decide), eG_276, va_up_ne _ _ (by decide), eG_265, va_up_ne _ _ (by decide), eG_254, va_up_ne _ _ (by decide), eG_243, va_up_ne _ _ (by decide), eG_232, va_up_ne _ _ (by decide), eG_221, va_up_ne _ _ (by decide), eG_210, va_up_ne _ _ (by decide), eG_199, va_up_ne _ _ (by decide), eG_188, va_up_ne _ _ (by decide), eG_166, va_up_ne _ _ (by decide), eG_155, va_up_ne _ _ (by decide), eG_135, va_up_ne _ _ (by decide), eG_125, va_up_ne _ _ (by decide), eG_107, va_up_ne _ _ (by decide), eG_98, va_up_ne _ _ (by decide), eG_82, va_up_ne _ _ (by decide), eG_74, va_up_ne _ _ (by decide), eG_60, va_up_ne _ _ (by decide), eG_53, va_up_ne _ _ (by decide), eG_41, va_up_ne _ _ (by decide), eG_35, va_up_ne _ _ (by decide), eG_25, va_up_ne _ _ (by decide), eG_20, va_up_ne _ _ (by decide), eG_12, va_up_ne _ _ (by decide), eG_8, va_up_ne _ _ (by decide), eG_2, va_up_ne _ _ (by decide)]; exact hn 1024 (by decide) (by decide)) (show _ from (hC.1.2 0 _ rfl).2) (fun _ => rfl) (by decide) (by decide) (by decide) (Nat.le_of_ble_eq_true rfl) (Nat.le_of_ble_eq_true rfl) d_M_init_351 (fun q_1219 H hm => ?_)
  obtain ⟨G_1220, eG_1220⟩ : ∃ z : mG, z = va_up G_1200 1024 (some (.inl ((dA 0), 16, .inl (fun _ => 0)))) := ⟨_, rfl⟩
  obtain ⟨ad_1221, ead_1221⟩ : ∃ z : Nat → Nat, z = va_up ad_935 1024 q_1219 := ⟨_, rfl⟩
  have hm : mS D mCl (mA ad G s.heap.size) s.heap ad_1221 G_1220 H locs := by rw [eG_1220, ead_1221]; exact hm
  have g_1222 := (congrFun eG_1220 1000).trans ((va_up_ne _ _ (by decide)).trans g_1201)
  have g_1223 := (congrFun eG_1220 1003).trans ((va_up_ne _ _ (by decide)).trans g_1202)
  have g_1224 := (congrFun eG_1220 1004).trans ((va_up_ne _ _ (by decide)).trans g_1203)
  have g_1225 := (congrFun eG_1220 1005).trans ((va_up_ne _ _ (by decide)).trans g_1204)
  have g_1226 := (congrFun eG_1220 1006).trans ((va_up_ne _ _ (by decide)).trans g_1205)
  have g_1227 := (congrFun eG_1220 1007).trans ((va_up_ne _ _ (by decide)).trans g_1206)
  have g_1228 := (congrFun eG_1220 1008).trans ((va_up_ne _ _ (by decide)).trans g_1207)
  have g_1229 := (congrFun eG_1220 1009).trans ((va_up_ne _ _ (by decide)).trans g_1208)
  have g_1230 := (congrFun eG_1220 1010).trans ((va_up_ne _ _ (by decide)).trans g_1209)
  have g_1231 := (congrFun eG_1220 1011).trans ((va_up_ne _ _ (by decide)).trans g_1210)
  have g_1232 := (congrFun eG_1220 1012).trans ((va_up_ne _ _ (by decide)).trans g_1211)
  have g_1233 := (congrFun eG_1220 1013).trans ((va_up_ne _ _ (by decide)).trans g_1212)
  have g_1234 := (congrFun eG_1220 1014).trans ((va_up_ne _ _ (by decide)).trans g_1213)
  have g_1235 := (congrFun eG_1220 1015).trans ((va_up_ne _ _ (by decide)).trans g_1214)
  have g_1236 := (congrFun eG_1220 1016).trans ((va_up_ne _ _ (by decide)).trans g_1215)
  have g_1237 := (congrFun eG_1220 1021).trans ((va_up_ne _ _ (by decide)).trans g_1216)
  have g_1238 := (congrFun eG_1220 1022).trans ((va_up_ne _ _ (by decide)).trans g_1217)
  have g_1239 := (congrFun eG_1220 1023).trans ((va_up_ne _ _ (by decide)).trans g_1218)
  have g_1240 : G_1220 1024 = some (.inl ((dA 0), 16, .inl (fun _ => 0))) := by rw [eG_1220, va_up_self]
  have z_1241 : a0 = ad_1221 1000 := by rw [ead_1221, va_up_ne _ _ (by decide)]; exact z_954
  have z_1242 : q_1 = ad_1221 1003 := by rw [ead_1221, va_up_ne _ _ (by decide)]; exact z_955
  have z_1243 : q_11 = ad_1221 1004 := by rw [ead_1221, va_up_ne _ _ (by decide)]; exact z_956
  have z_1244 : q_24 = ad_1221 1005 := by rw [ead_1221, va_up_ne _ _ (by decide)]; exact z_957
  have z_1245 : q_40 = ad_1221 1006 := by rw [ead_1221, va_up_ne _ _ (by decide)]; exact z_958
  have z_1246 : q_59 = ad_1221 1007 := by rw [ead_1221, va_up_ne _ _ (by decide)]; exact z_959
  have z_1247 : q_81 = ad_1221 1008 := by rw [ead_1221, va_up_ne _ _ (by decide)]; exact z_960
  have z_1248 : q_106 = ad_1221 1009 := by rw [ead_1221, va_up_ne _ _ (by decide)]; exact z_961
  have z_1249 : q_134 = ad_1221 1010 := by rw [ead_1221, va_up_ne _ _ (by decide)]; exact z_962
  have z_1250 : q_165 = ad_1221 1011 := by rw [ead_1221, va_up_ne _ _ (by decide)]; exact z_963
  have z_1251 : q_375 = ad_1221 1012 := by rw [ead_1221, va_up_ne _ _ (by decide)]; exact z_964
  have z_1252 : q_460 = ad_1221 1013 := by rw [ead_1221, va_up_ne _ _ (by decide)]; exact z_965
  have z_1253 : q_500 = ad_1221 1014 := by rw [ead_1221, va_up_ne _ _ (by decide)]; exact z_966
  have z_1254 : q_543 = ad_1221 1015 := by rw [ead_1221, va_up_ne _ _ (by decide)]; exact z_967
  have z_1255 : q_649 = ad_1221 1016 := by rw [ead_1221, va_up_ne _ _ (by decide)]; exact z_968
  have z_1256 : q_826 = ad_1221 1021 := by rw [ead_1221, va_up_ne _ _ (by decide)]; exact z_969
  have z_1257 : q_878 = ad_1221 1022 := by rw [ead_1221, va_up_ne _ _ (by decide)]; exact z_970
  have z_1258 : q_933 = ad_1221 1023 := by rw [ead_1221, va_up_ne _ _ (by decide)]; exact z_971
  have z_1259 : q_1219 = ad_1221 1024 := by rw [ead_1221, va_up_self]
  refine m_putF (v := .ref q_1219) (ty := (.array .int)) (C := R_M) (T := T_M) (N := 28) hx hb hT in_M t_M tok_M nm_M hown hC.1 hm 1000 z_1241 g_1222 rfl 24 (by decide) (hT _ k_614) (fun _ h9 => h9) rfl hin rfl (by decide +kernel) rfl rfl (Nat.le_of_ble_eq_true rfl) d_M_init_353 (fun H locs hm => ?_)
  obtain ⟨G_1260, eG_1260⟩ : ∃ z : mG, z = va_up G_1220 1000 (some (.inr (6, [.int 0, .long 0, .int 0, .ref q_1, .ref q_11, .ref q_24, .ref q_40, .ref q_59, .ref q_81, .ref q_106, .ref q_134, .ref q_165, .ref q_375, .ref q_460, .ref q_500, .ref q_543, .ref q_649, .int 1000, .int 4, .int 500, .int 600, .ref q_826, .ref q_878, .ref q_933, .ref q_1219, .null, .int 0, .int 0]))) := ⟨_, rfl⟩
  have hm : mS D mCl (mA ad G s.heap.size) s.heap ad_1221 G_1260 H locs := by rw [eG_1260]; exact hm
  have g_1261 : G_1260 1000 = some (.inr (6, [.int 0, .long 0, .int 0, .ref q_1, .ref q_11, .ref q_24, .ref q_40, .ref q_59, .ref q_81, .ref q_106, .ref q_134, .ref q_165, .ref q_375, .ref q_460, .ref q_500, .ref q_543, .ref q_649, .int 1000, .int 4, .int 500, .int 600, .ref q_826, .ref q_878, .ref q_933, .ref q_1219, .null, .int 0, .int 0])) := by rw [eG_1260, va_up_self]
  have g_1262 := (congrFun eG_1260 1003).trans ((va_up_ne _ _ (by decide)).trans g_1223)
  have g_1263 := (congrFun eG_1260 1004).trans ((va_up_ne _ _ (by decide)).trans g_1224)
  have g_1264 := (congrFun eG_1260 1005).trans ((va_up_ne _ _ (by decide)).trans g_1225)
  have g_1265 := (congrFun eG_1260 1006).trans ((va_up_ne _ _ (by decide)).trans g_1226)
  have g_1266 := (congrFun eG_1260 1007).trans ((va_up_ne _ _ (by decide)).trans g_1227)
  have g_1267 := (congrFun eG_1260 1008).trans ((va_up_ne _ _ (by decide)).trans g_1228)
  have g_1268 := (congrFun eG_1260 1009).trans ((va_up_ne _ _ (by decide)).trans g_1229)
  have g_1269 := (congrFun eG_1260 1010).trans ((va_up_ne _ _ (by decide)).trans g_1230)
  have g_1270 := (congrFun eG_1260 1011).trans ((va_up_ne _ _ (by decide)).trans g_1231)
  have g_1271 := (congrFun eG_1260 1012).trans ((va_up_ne _ _ (by decide)).trans g_1232)
  have g_1272 := (congrFun eG_1260 1013).trans ((va_up_ne _ _ (by decide)).trans g_1233)
  have g_1273 := (congrFun eG_1260 1014).trans ((va_up_ne _ _ (by decide)).trans g_1234)
  have g_1274 := (congrFun eG_1260 1015).trans ((va_up_ne _ _ (by decide)).trans g_1235)
  have g_1275 := (congrFun eG_1260 1016).trans ((va_up_ne _ _ (by decide)).trans g_1236)
  have g_1276 := (congrFun eG_1260 1021).trans ((va_up_ne _ _ (by decide)).trans g_1237)
  have g_1277 := (congrFun eG_1260 1022).trans ((va_up_ne _ _ (by decide)).trans g_1238)
  have g_1278 := (congrFun eG_1260 1023).trans ((va_up_ne _ _ (by decide)).trans g_1239)
  have g_1279 := (congrFun eG_1260 1024).trans ((va_up_ne _ _ (by decide)).trans g_1240)
  refine lv_aload_n hx hb d_M_init_356 rfl (lv_at hl 0 rfl) ?_
  refine lv_bipush (v := 16) hx hb d_M_init_357 (by decide) ?_
  refine m_newa (atype := .int) (ty := .int) (a0 := (16, .inl (fun _ => 0))) (cA := (dA 0)) hx hb (hT _ k_59) rfl hm hA 1025 (by rw [eG_1260, va_up_ne _ _ (by decide), eG_1220, va_up_ne _ _ (by decide), eG_1200, va_up_ne _ _ (by decide), eG_1181, va_up_ne _ _ (by decide), eG_1162, va_up_ne _ _ (by decide), eG_1143, va_up_ne _ _ (by decide), eG_1124, va_up_ne _ _ (by decide), eG_1105, va_up_ne _ _ (by decide), eG_1086, va_up_ne _ _ (by decide), eG_1067, va_up_ne _ _ (by decide), eG_1048, va_up_ne _ _ (by decide), eG_1029, va_up_ne _ _ (by decide), eG_1010, va_up_ne _ _ (by decide), eG_991, va_up_ne _ _ (by decide), eG_972, va_up_ne _ _ (by decide), eG_934, va_up_ne _ _ (by decide), eG_915, va_up_ne _ _ (by decide), eG_879, va_up_ne _ _ (by decide), eG_861, va_up_ne _ _ (by decide), eG_827, va_up_ne _ _ (by decide), eG_810, va_up_ne _ _ (by decide), eG_794, va_up_ne _ _ (by decide), eG_778, va_up_ne _ _ (by decide), eG_762, va_up_ne _ _ (by decide), eG_746, va_up_ne _ _ (by decide), eG_730, va_up_ne _ _ (by decide), eG_714, va_up_ne _ _ (by decide), eG_698, va_up_ne _ _ (by decide), eG_682, va_up_ne _ _ (by decide), eG_650, va_up_ne _ _ (by decide), eG_634, va_up_ne _ _ (by decide), eG_619, va_up_ne _ _ (by decide), eG_604, va_up_ne _ _ (by decide), eG_589, va_up_ne _ _ (by decide), eG_574, va_up_ne _ _ (by decide), eG_544, va_up_ne _ _ (by decide), eG_529, va_up_ne _ _ (by decide), eG_501, va_up_ne _ _ (by decide), eG_487, va_up_ne _ _ (by decide), eG_461, va_up_ne _ _ (by decide), eG_448, va_up_ne _ _ (by decide), eG_436, va_up_ne _ _ (by decide), eG_424, va_up_ne _ _ (by decide), eG_412, va_up_ne _ _ (by decide), eG_400, va_up_ne _ _ (by decide), eG_376, va_up_ne _ _ (by decide), eG_364, va_up_ne _ _ (by decide), eG_353, va_up_ne _ _ (by decide), eG_342, va_up_ne _ _ (by decide), eG_331, va_up_ne _ _ (by decide), eG_320, va_up_ne _ _ (by decide), eG_309, va_up_ne _ _ (by decide), eG_298, va_up_ne _ _ (by decide), eG_287, va_up_ne _ _ (by decide), eG_276, va_up_ne _ _ (by decide), eG_265, va_up_ne _ _ (by decide), eG_254, va_up_ne _ _ (by decide), eG_243, va_up_ne _ _ (by decide), eG_232, va_up_ne _ _ (by decide), eG_221, va_up_ne _ _ (by decide), eG_210, va_up_ne _ _ (by decide), eG_199, va_up_ne _ _ (by decide), eG_188, va_up_ne _ _ (by decide), eG_166, va_up_ne _ _ (by decide), eG_155, va_up_ne _ _ (by decide), eG_135, va_up_ne _ _ (by decide), eG_125, va_up_ne _ _ (by decide), eG_107, va_up_ne _ _ (by decide), eG_98, va_up_ne _ _ (by decide), eG_82, va_up_ne _ _ (by decide), eG_74, va_up_ne _ _ (by decide), eG_60, va_up_ne _ _ (by decide), eG_53, va_up_ne _ _ (by decide), eG_41, va_up_ne _ _ (by decide), eG_35, va_up_ne _ _ (by decide), eG_25, va_up_ne _ _ (by decide), eG_20, va_up_ne _ _ (by decide), eG_12, va_up_ne _ _ (by decide), eG_8, va_up_ne _ _ (by decide), eG_2, va_up_ne _ _ (by decide)]; exact hn 1025 (by decide) (by decide)) (show _ from (hC.1.2 0 _ rfl).2) (fun _ => rfl) (by decide) (by decide) (by decide) (Nat.le_of_ble_eq_true rfl) (Nat.le_of_ble_eq_true rfl) d_M_init_359 (fun q_1280 H hm => ?_)
  obtain ⟨G_1281, eG_1281⟩ : ∃ z : mG, z = va_up G_1260 1025 (some (.inl ((dA 0), 16, .inl (fun _ => 0)))) := ⟨_, rfl⟩
  obtain ⟨ad_1282, ead_1282⟩ : ∃ z : Nat → Nat, z = va_up ad_1221 1025 q_1280 := ⟨_, rfl⟩
  have hm : mS D mCl (mA ad G s.heap.size) s.heap ad_1282 G_1281 H locs := by rw [eG_1281, ead_1282]; exact hm
  have g_1283 := (congrFun eG_1281 1000).trans ((va_up_ne _ _ (by decide)).trans g_1261)
  have g_1284 := (congrFun eG_1281 1003).trans ((va_up_ne _ _ (by decide)).trans g_1262)
  have g_1285 := (congrFun eG_1281 1004).trans ((va_up_ne _ _ (by decide)).trans g_1263)
  have g_1286 := (congrFun eG_1281 1005).trans ((va_up_ne _ _ (by decide)).trans g_1264)
  have g_1287 := (congrFun eG_1281 1006).trans ((va_up_ne _ _ (by decide)).trans g_1265)
  have g_1288 := (congrFun eG_1281 1007).trans ((va_up_ne _ _ (by decide)).trans g_1266)
  have g_1289 := (congrFun eG_1281 1008).trans ((va_up_ne _ _ (by decide)).trans g_1267)
  have g_1290 := (congrFun eG_1281 1009).trans ((va_up_ne _ _ (by decide)).trans g_1268)
  have g_1291 := (congrFun eG_1281 1010).trans ((va_up_ne _ _ (by decide)).trans g_1269)
  have g_1292 := (congrFun eG_1281 1011).trans ((va_up_ne _ _ (by decide)).trans g_1270)
  have g_1293 := (congrFun eG_1281 1012).trans ((va_up_ne _ _ (by decide)).trans g_1271)
  have g_1294 := (congrFun eG_1281 1013).trans ((va_up_ne _ _ (by decide)).trans g_1272)
  have g_1295 := (congrFun eG_1281 1014).trans ((va_up_ne _ _ (by decide)).trans g_1273)
  have g_1296 := (congrFun eG_1281 1015).trans ((va_up_ne _ _ (by decide)).trans g_1274)
  have g_1297 := (congrFun eG_1281 1016).trans ((va_up_ne _ _ (by decide)).trans g_1275)
  have g_1298 := (congrFun eG_1281 1021).trans ((va_up_ne _ _ (by decide)).trans g_1276)
  have g_1299 := (congrFun eG_1281 1022).trans ((va_up_ne _ _ (by decide)).trans g_1277)
  have g_1300 := (congrFun eG_1281 1023).trans ((va_up_ne _ _ (by decide)).trans g_1278)
  have g_1301 := (congrFun eG_1281 1024).trans ((va_up_ne _ _ (by decide)).trans g_1279)
  have g_1302 : G_1281 1025 = some (.inl ((dA 0), 16, .inl (fun _ => 0))) := by rw [eG_1281, va_up_self]
  have z_1303 : a0 = ad_1282 1000 := by rw [ead_1282, va_up_ne _ _ (by decide)]; exact z_1241
  have z_1304 : q_1 = ad_1282 1003 := by rw [ead_1282, va_up_ne _ _ (by decide)]; exact z_1242
  have z_1305 : q_11 = ad_1282 1004 := by rw [ead_1282, va_up_ne _ _ (by decide)]; exact z_1243
  have z_1306 : q_24 = ad_1282 1005 := by rw [ead_1282, va_up_ne _ _ (by decide)]; exact z_1244
  have z_1307 : q_40 = ad_1282 1006 := by rw [ead_1282, va_up_ne _ _ (by decide)]; exact z_1245
  have z_1308 : q_59 = ad_1282 1007 := by rw [ead_1282, va_up_ne _ _ (by decide)]; exact z_1246
  have z_1309 : q_81 = ad_1282 1008 := by rw [ead_1282, va_up_ne _ _ (by decide)]; exact z_1247
  have z_1310 : q_106 = ad_1282 1009 := by rw [ead_1282, va_up_ne _ _ (by decide)]; exact z_1248
  have z_1311 : q_134 = ad_1282 1010 := by rw [ead_1282, va_up_ne _ _ (by decide)]; exact z_1249
  have z_1312 : q_165 = ad_1282 1011 := by rw [ead_1282, va_up_ne _ _ (by decide)]; exact z_1250
  have z_1313 : q_375 = ad_1282 1012 := by rw [ead_1282, va_up_ne _ _ (by decide)]; exact z_1251
  have z_1314 : q_460 = ad_1282 1013 := by rw [ead_1282, va_up_ne _ _ (by decide)]; exact z_1252
  have z_1315 : q_500 = ad_1282 1014 := by rw [ead_1282, va_up_ne _ _ (by decide)]; exact z_1253
  have z_1316 : q_543 = ad_1282 1015 := by rw [ead_1282, va_up_ne _ _ (by decide)]; exact z_1254
  have z_1317 : q_649 = ad_1282 1016 := by rw [ead_1282, va_up_ne _ _ (by decide)]; exact z_1255
  have z_1318 : q_826 = ad_1282 1021 := by rw [ead_1282, va_up_ne _ _ (by decide)]; exact z_1256
  have z_1319 : q_878 = ad_1282 1022 := by rw [ead_1282, va_up_ne _ _ (by decide)]; exact z_1257
  have z_1320 : q_933 = ad_1282 1023 := by rw [ead_1282, va_up_ne _ _ (by decide)]; exact z_1258
  have z_1321 : q_1219 = ad_1282 1024 := by rw [ead_1282, va_up_ne _ _ (by decide)]; exact z_1259
  have z_1322 : q_1280 = ad_1282 1025 := by rw [ead_1282, va_up_self]
  refine m_putF (v := .ref q_1280) (ty := (.array .int)) (C := R_M) (T := T_M) (N := 28) hx hb hT in_M t_M tok_M nm_M hown hC.1 hm 1000 z_1303 g_1283 rfl 25 (by decide) (hT _ k_615) (fun _ h9 => h9) rfl hin rfl (by decide +kernel) rfl rfl (Nat.le_of_ble_eq_true rfl) d_M_init_361 (fun H locs hm => ?_)
  obtain ⟨G_1323, eG_1323⟩ : ∃ z : mG, z = va_up G_1281 1000 (some (.inr (6, [.int 0, .long 0, .int 0, .ref q_1, .ref q_11, .ref q_24, .ref q_40, .ref q_59, .ref q_81, .ref q_106, .ref q_134, .ref q_165, .ref q_375, .ref q_460, .ref q_500, .ref q_543, .ref q_649, .int 1000, .int 4, .int 500, .int 600, .ref q_826, .ref q_878, .ref q_933, .ref q_1219, .ref q_1280, .int 0, .int 0]))) := ⟨_, rfl⟩
  have hm : mS D mCl (mA ad G s.heap.size) s.heap ad_1282 G_1323 H locs := by rw [eG_1323]; exact hm
  have g_1324 : G_1323 1000 = some (.inr (6, [.int 0, .long 0, .int 0, .ref q_1, .ref q_11, .ref q_24, .ref q_40, .ref q_59, .ref q_81, .ref q_106, .ref q_134, .ref q_165, .ref q_375, .ref q_460, .ref q_500, .ref q_543, .ref q_649, .int 1000, .int 4, .int 500, .int 600, .ref q_826, .ref q_878, .ref q_933, .ref q_1219, .ref q_1280, .int 0, .int 0])) := by rw [eG_1323, va_up_self]
  have g_1325 := (congrFun eG_1323 1003).trans ((va_up_ne _ _ (by decide)).trans g_1284)
  have g_1326 := (congrFun eG_1323 1004).trans ((va_up_ne _ _ (by decide)).trans g_1285)
  have g_1327 := (congrFun eG_1323 1005).trans ((va_up_ne _ _ (by decide)).trans g_1286)
  have g_1328 := (congrFun eG_1323 1006).trans ((va_up_ne _ _ (by decide)).trans g_1287)
  have g_1329 := (congrFun eG_1323 1007).trans ((va_up_ne _ _ (by decide)).trans g_1288)
  have g_1330 := (congrFun eG_1323 1008).trans ((va_up_ne _ _ (by decide)).trans g_1289)
  have g_1331 := (congrFun eG_1323 1009).trans ((va_up_ne _ _ (by decide)).trans g_1290)
  have g_1332 := (congrFun eG_1323 1010).trans ((va_up_ne _ _ (by decide)).trans g_1291)
  have g_1333 := (congrFun eG_1323 1011).trans ((va_up_ne _ _ (by decide)).trans g_1292)
  have g_1334 := (congrFun eG_1323 1012).trans ((va_up_ne _ _ (by decide)).trans g_1293)
  have g_1335 := (congrFun eG_1323 1013).trans ((va_up_ne _ _ (by decide)).trans g_1294)
  have g_1336 := (congrFun eG_1323 1014).trans ((va_up_ne _ _ (by decide)).trans g_1295)
  have g_1337 := (congrFun eG_1323 1015).trans ((va_up_ne _ _ (by decide)).trans g_1296)
  have g_1338 := (congrFun eG_1323 1016).trans ((va_up_ne _ _ (by decide)).trans g_1297)
  have g_1339 := (congrFun eG_1323 1021).trans ((va_up_ne _ _ (by decide)).trans g_1298)
  have g_1340 := (congrFun eG_1323 1022).trans ((va_up_ne _ _ (by decide)).trans g_1299)
  have g_1341 := (congrFun eG_1323 1023).trans ((va_up_ne _ _ (by decide)).trans g_1300)
  have g_1342 := (congrFun eG_1323 1024).trans ((va_up_ne _ _ (by decide)).trans g_1301)
  have g_1343 := (congrFun eG_1323 1025).trans ((va_up_ne _ _ (by decide)).trans g_1302)
  refine lv_aload_n hx hb d_M_init_364 rfl (lv_at hl 0 rfl) ?_
  refine lv_iload_n hx hb d_M_init_365 rfl (lv_at hl 1 rfl) ?_
  refine lv_i2l hx hb d_M_init_366 rfl ?_
  refine lv_topl (fun x_1344 ex_1344 => ?_)
  refine m_put (v := .long x_1344) (ty := .long) (C := R_M) (T := T_M) (N := 28) hx hb hT in_M t_M tok_M nm_M hown hC.1 hm 1000 z_1303 g_1324 rfl 1 (by decide) (hT _ k_591) (fun _ h9 => h9) rfl (by decide +kernel) rfl rfl (Nat.le_of_ble_eq_true rfl) d_M_init_367 (fun H locs hm => ?_)
  obtain ⟨G_1345, eG_1345⟩ : ∃ z : mG, z = va_up G_1323 1000 (some (.inr (6, [.int 0, .long x_1344, .int 0, .ref q_1, .ref q_11, .ref q_24, .ref q_40, .ref q_59, .ref q_81, .ref q_106, .ref q_134, .ref q_165, .ref q_375, .ref q_460, .ref q_500, .ref q_543, .ref q_649, .int 1000, .int 4, .int 500, .int 600, .ref q_826, .ref q_878, .ref q_933, .ref q_1219, .ref q_1280, .int 0, .int 0]))) := ⟨_, rfl⟩
  have hm : mS D mCl (mA ad G s.heap.size) s.heap ad_1282 G_1345 H locs := by rw [eG_1345]; exact hm
  have g_1346 : G_1345 1000 = some (.inr (6, [.int 0, .long x_1344, .int 0, .ref q_1, .ref q_11, .ref q_24, .ref q_40, .ref q_59, .ref q_81, .ref q_106, .ref q_134, .ref q_165, .ref q_375, .ref q_460, .ref q_500, .ref q_543, .ref q_649, .int 1000, .int 4, .int 500, .int 600, .ref q_826, .ref q_878, .ref q_933, .ref q_1219, .ref q_1280, .int 0, .int 0])) := by rw [eG_1345, va_up_self]
  have g_1347 := (congrFun eG_1345 1003).trans ((va_up_ne _ _ (by decide)).trans g_1325)
  have g_1348 := (congrFun eG_1345 1004).trans ((va_up_ne _ _ (by decide)).trans g_1326)
  have g_1349 := (congrFun eG_1345 1005).trans ((va_up_ne _ _ (by decide)).trans g_1327)
  have g_1350 := (congrFun eG_1345 1006).trans ((va_up_ne _ _ (by decide)).trans g_1328)
  have g_1351 := (congrFun eG_1345 1007).trans ((va_up_ne _ _ (by decide)).trans g_1329)
  have g_1352 := (congrFun eG_1345 1008).trans ((va_up_ne _ _ (by decide)).trans g_1330)
  have g_1353 := (congrFun eG_1345 1009).trans ((va_up_ne _ _ (by decide)).trans g_1331)
  have g_1354 := (congrFun eG_1345 1010).trans ((va_up_ne _ _ (by decide)).trans g_1332)
  have g_1355 := (congrFun eG_1345 1011).trans ((va_up_ne _ _ (by decide)).trans g_1333)
  have g_1356 := (congrFun eG_1345 1012).trans ((va_up_ne _ _ (by decide)).trans g_1334)
  have g_1357 := (congrFun eG_1345 1013).trans ((va_up_ne _ _ (by decide)).trans g_1335)
  have g_1358 := (congrFun eG_1345 1014).trans ((va_up_ne _ _ (by decide)).trans g_1336)
  have g_1359 := (congrFun eG_1345 1015).trans ((va_up_ne _ _ (by decide)).trans g_1337)
  have g_1360 := (congrFun eG_1345 1016).trans ((va_up_ne _ _ (by decide)).trans g_1338)
  have g_1361 := (congrFun eG_1345 1021).trans ((va_up_ne _ _ (by decide)).trans g_1339)
  have g_1362 := (congrFun eG_1345 1022).trans ((va_up_ne _ _ (by decide)).trans g_1340)
  have g_1363 := (congrFun eG_1345 1023).trans ((va_up_ne _ _ (by decide)).trans g_1341)
  have g_1364 := (congrFun eG_1345 1024).trans ((va_up_ne _ _ (by decide)).trans g_1342)
  have g_1365 := (congrFun eG_1345 1025).trans ((va_up_ne _ _ (by decide)).trans g_1343)
  exact m_vret hx hb hr hm (by
    have hoth : ∀ x, (x < 1000 ∨ 1100 ≤ x) → G_1345 x = G x := by
      intro x hx9
      rw [eG_1345, va_up_ne _ _ (by omega), eG_1323, va_up_ne _ _ (by omega), eG_1281, va_up_ne _ _ (by omega), eG_1260, va_up_ne _ _ (by omega), eG_1220, va_up_ne _ _ (by omega), eG_1200, va_up_ne _ _ (by omega), eG_1181, va_up_ne _ _ (by omega), eG_1162, va_up_ne _ _ (by omega), eG_1143, va_up_ne _ _ (by omega), eG_1124, va_up_ne _ _ (by omega), eG_1105, va_up_ne _ _ (by omega), eG_1086, va_up_ne _ _ (by omega), eG_1067, va_up_ne _ _ (by omega), eG_1048, va_up_ne _ _ (by omega), eG_1029, va_up_ne _ _ (by omega), eG_1010, va_up_ne _ _ (by omega), eG_991, va_up_ne _ _ (by omega), eG_972, va_up_ne _ _ (by omega), eG_934, va_up_ne _ _ (by omega), eG_915, va_up_ne _ _ (by omega), eG_879, va_up_ne _ _ (by omega), eG_861, va_up_ne _ _ (by omega), eG_827, va_up_ne _ _ (by omega), eG_810, va_up_ne _ _ (by omega), eG_794, va_up_ne _ _ (by omega), eG_778, va_up_ne _ _ (by omega), eG_762, va_up_ne _ _ (by omega), eG_746, va_up_ne _ _ (by omega), eG_730, va_up_ne _ _ (by omega), eG_714, va_up_ne _ _ (by omega), eG_698, va_up_ne _ _ (by omega), eG_682, va_up_ne _ _ (by omega), eG_650, va_up_ne _ _ (by omega), eG_634, va_up_ne _ _ (by omega), eG_619, va_up_ne _ _ (by omega), eG_604, va_up_ne _ _ (by omega), eG_589, va_up_ne _ _ (by omega), eG_574, va_up_ne _ _ (by omega), eG_544, va_up_ne _ _ (by omega), eG_529, va_up_ne _ _ (by omega), eG_501, va_up_ne _ _ (by omega), eG_487, va_up_ne _ _ (by omega), eG_461, va_up_ne _ _ (by omega), eG_448, va_up_ne _ _ (by omega), eG_436, va_up_ne _ _ (by omega), eG_424, va_up_ne _ _ (by omega), eG_412, va_up_ne _ _ (by omega), eG_400, va_up_ne _ _ (by omega), eG_376, va_up_ne _ _ (by omega), eG_364, va_up_ne _ _ (by omega), eG_353, va_up_ne _ _ (by omega), eG_342, va_up_ne _ _ (by omega), eG_331, va_up_ne _ _ (by omega), eG_320, va_up_ne _ _ (by omega), eG_309, va_up_ne _ _ (by omega), eG_298, va_up_ne _ _ (by omega), eG_287, va_up_ne _ _ (by omega), eG_276, va_up_ne _ _ (by omega), eG_265, va_up_ne _ _ (by omega), eG_254, va_up_ne _ _ (by omega), eG_243, va_up_ne _ _ (by omega), eG_232, va_up_ne _ _ (by omega), eG_221, va_up_ne _ _ (by omega), eG_210, va_up_ne _ _ (by omega), eG_199, va_up_ne _ _ (by omega), eG_188, va_up_ne _ _ (by omega), eG_166, va_up_ne _ _ (by omega), eG_155, va_up_ne _ _ (by omega), eG_135, va_up_ne _ _ (by omega), eG_125, va_up_ne _ _ (by omega), eG_107, va_up_ne _ _ (by omega), eG_98, va_up_ne _ _ (by omega), eG_82, va_up_ne _ _ (by omega), eG_74, va_up_ne _ _ (by omega), eG_60, va_up_ne _ _ (by omega), eG_53, va_up_ne _ _ (by omega), eG_41, va_up_ne _ _ (by omega), eG_35, va_up_ne _ _ (by omega), eG_25, va_up_ne _ _ (by omega), eG_20, va_up_ne _ _ (by omega), eG_12, va_up_ne _ _ (by omega), eG_8, va_up_ne _ _ (by omega), eG_2, va_up_ne _ _ (by omega)]
    have hoa : ∀ x, (x < 1000 ∨ 1100 ≤ x) → ad_1282 x = ad x := by
      intro x hx9
      rw [ead_1282, va_up_ne _ _ (by omega), ead_1221, va_up_ne _ _ (by omega), ead_935, va_up_ne _ _ (by omega), ead_880, va_up_ne _ _ (by omega), ead_828, va_up_ne _ _ (by omega), ead_651, va_up_ne _ _ (by omega), ead_545, va_up_ne _ _ (by omega), ead_502, va_up_ne _ _ (by omega), ead_462, va_up_ne _ _ (by omega), ead_377, va_up_ne _ _ (by omega), ead_167, va_up_ne _ _ (by omega), ead_136, va_up_ne _ _ (by omega), ead_108, va_up_ne _ _ (by omega), ead_83, va_up_ne _ _ (by omega), ead_61, va_up_ne _ _ (by omega), ead_42, va_up_ne _ _ (by omega), ead_26, va_up_ne _ _ (by omega), ead_13, va_up_ne _ _ (by omega), ead_3, va_up_ne _ _ (by omega)]
    have hno : ∀ x, 1000 ≤ x → x < 1100 → x ≠ 1000 → x ≠ 1003 → x ≠ 1004 → x ≠ 1005 → x ≠ 1006 → x ≠ 1007 → x ≠ 1008 → x ≠ 1009 → x ≠ 1010 → x ≠ 1011 → x ≠ 1012 → x ≠ 1013 → x ≠ 1014 → x ≠ 1015 → x ≠ 1016 → x ≠ 1021 → x ≠ 1022 → x ≠ 1023 → x ≠ 1024 → x ≠ 1025 → G_1345 x = none := by
      intro x hx8 hx9 n1000 n1003 n1004 n1005 n1006 n1007 n1008 n1009 n1010 n1011 n1012 n1013 n1014 n1015 n1016 n1021 n1022 n1023 n1024 n1025
      rw [eG_1345, va_up_ne _ _ n1000, eG_1323, va_up_ne _ _ n1000, eG_1281, va_up_ne _ _ n1025, eG_1260, va_up_ne _ _ n1000, eG_1220, va_up_ne _ _ n1024, eG_1200, va_up_ne _ _ n1000, eG_1181, va_up_ne _ _ n1023, eG_1162, va_up_ne _ _ n1023, eG_1143, va_up_ne _ _ n1023, eG_1124, va_up_ne _ _ n1023, eG_1105, va_up_ne _ _ n1023, eG_1086, va_up_ne _ _ n1023, eG_1067, va_up_ne _ _ n1023, eG_1048, va_up_ne _ _ n1023, eG_1029, va_up_ne _ _ n1023, eG_1010, va_up_ne _ _ n1023, eG_991, va_up_ne _ _ n1023, eG_972, va_up_ne _ _ n1023, eG_934, va_up_ne _ _ n1023, eG_915, va_up_ne _ _ n1000, eG_879, va_up_ne _ _ n1022, eG_861, va_up_ne _ _ n1000, eG_827, va_up_ne _ _ n1021, eG_810, va_up_ne _ _ n1000, eG_794, va_up_ne _ _ n1000, eG_778, va_up_ne _ _ n1000, eG_762, va_up_ne _ _ n1000, eG_746, va_up_ne _ _ n1000, eG_730, va_up_ne _ _ n1016, eG_714, va_up_ne _ _ n1016, eG_698, va_up_ne _ _ n1016, eG_682, va_up_ne _ _ n1016, eG_650, va_up_ne _ _ n1016, eG_634, va_up_ne _ _ n1000, eG_619, va_up_ne _ _ n1015, eG_604, va_up_ne _ _ n1015, eG_589, va_up_ne _ _ n1015, eG_574, va_up_ne _ _ n1015, eG_544, va_up_ne _ _ n1015, eG_529, va_up_ne _ _ n1000, eG_501, va_up_ne _ _ n1014, eG_487, va_up_ne _ _ n1000, eG_461, va_up_ne _ _ n1013, eG_448, va_up_ne _ _ n1000, eG_436, va_up_ne _ _ n1012, eG_424, va_up_ne _ _ n1012, eG_412, va_up_ne _ _ n1012, eG_400, va_up_ne _ _ n1012, eG_376, va_up_ne _ _ n1012, eG_364, va_up_ne _ _ n1000, eG_353, va_up_ne _ _ n1011, eG_342, va_up_ne _ _ n1011, eG_331, va_up_ne _ _ n1011, eG_320, va_up_ne _ _ n1011, eG_309, va_up_ne _ _ n1011, eG_298, va_up_ne _ _ n1011, eG_287, va_up_ne _ _ n1011, eG_276, va_up_ne _ _ n1011, eG_265, va_up_ne _ _ n1011, eG_254, va_up_ne _ _ n1011, eG_243, va_up_ne _ _ n1011, eG_232, va_up_ne _ _ n1011, eG_221, va_up_ne _ _ n1011, eG_210, va_up_ne _ _ n1011, eG_199, va_up_ne _ _ n1011, eG_188, va_up_ne _ _ n1011, eG_166, va_up_ne _ _ n1011, eG_155, va_up_ne _ _ n1000, eG_135, va_up_ne _ _ n1010, eG_125, va_up_ne _ _ n1000, eG_107, va_up_ne _ _ n1009, eG_98, va_up_ne _ _ n1000, eG_82, va_up_ne _ _ n1008, eG_74, va_up_ne _ _ n1000, eG_60, va_up_ne _ _ n1007, eG_53, va_up_ne _ _ n1000, eG_41, va_up_ne _ _ n1006, eG_35, va_up_ne _ _ n1000, eG_25, va_up_ne _ _ n1005, eG_20, va_up_ne _ _ n1000, eG_12, va_up_ne _ _ n1004, eG_8, va_up_ne _ _ n1000, eG_2, va_up_ne _ _ n1003]
      exact hn x (by omega) hx9
    have h0a : ad_1282 1000 = ad 1000 := z_1303.symm.trans hz
    have f1000 := g_1346
    have f1003 := g_1347
    have f1004 := g_1348
    have f1005 := g_1349
    have f1006 := g_1350
    have f1007 := g_1351
    have f1008 := g_1352
    have f1009 := g_1353
    have f1010 := g_1354
    have f1011 := g_1355
    have f1012 := g_1356
    have f1013 := g_1357
    have f1014 := g_1358
    have f1015 := g_1359
    have f1016 := g_1360
    have f1021 := g_1361
    have f1022 := g_1362
    have f1023 := g_1363
    have f1024 := g_1364
    have f1025 := g_1365
    refine ⟨ad_1282, hoa, h0a, ?_⟩
    refine Prod.ext rfl ?_
    funext x
    show G_1345 x = gM dA ad_1282 mA0 mB0 mS0 p0.toInt64 G x
    by_cases n1000 : x = 1000
    · rw [n1000, f1000]
      rw [z_1304]
      rw [z_1305]
      rw [z_1306]
      rw [z_1307]
      rw [z_1308]
      rw [z_1309]
      rw [z_1310]
      rw [z_1311]
      rw [z_1312]
      rw [z_1313]
      rw [z_1314]
      rw [z_1315]
      rw [z_1316]
      rw [z_1317]
      rw [z_1318]
      rw [z_1319]
      rw [z_1320]
      rw [z_1321]
      rw [z_1322]
      rw [ex_1344]
      rfl
    by_cases n1003 : x = 1003
    · rw [n1003, f1003]
      refine Eq.trans ?_ (gM_3).symm
      rw [m_z1003]
    by_cases n1004 : x = 1004
    · rw [n1004, f1004]
      refine Eq.trans ?_ (gM_4).symm
      rw [m_z1004]
    by_cases n1005 : x = 1005
    · rw [n1005, f1005]
      refine Eq.trans ?_ (gM_5).symm
      rw [m_z1005]
    by_cases n1006 : x = 1006
    · rw [n1006, f1006]
      refine Eq.trans ?_ (gM_6).symm
      rw [m_z1006]
    by_cases n1007 : x = 1007
    · rw [n1007, f1007]
      refine Eq.trans ?_ (gM_7).symm
      rw [m_z1007]
    by_cases n1008 : x = 1008
    · rw [n1008, f1008]
      refine Eq.trans ?_ (gM_8).symm
      rw [m_z1008]
    by_cases n1009 : x = 1009
    · rw [n1009, f1009]
      refine Eq.trans ?_ (gM_9).symm
      rw [m_z1009]
    by_cases n1010 : x = 1010
    · rw [n1010, f1010]
      refine Eq.trans ?_ (gM_10).symm
      rw [m_z1010]
    by_cases n1011 : x = 1011
    · rw [n1011, f1011]
      rw [show vp_updL (vp_updL (vp_updL (vp_updL (vp_updL (vp_updL (vp_updL (vp_updL (vp_updL (vp_updL (vp_updL (vp_updL (vp_updL (vp_updL (vp_updL (vp_updL (fun _ => 0) 0 1) 1 1) 2 1) 3 1) 4 1) 5 1) 6 1) 7 1) 8 1) 9 1) 10 1) 11 1) 12 1) 13 1) 14 1) 15 1 = mB0 11 from m_lit1011]
      rfl
    by_cases n1012 : x = 1012
    · rw [n1012, f1012]
      rw [show vp_updL (vp_updL (vp_updL (vp_updL (fun _ => 0) 0 1000000) 1 1000000) 2 1000000) 3 1000000 = mB0 12 from m_lit1012]
      rfl
    by_cases n1013 : x = 1013
    · rw [n1013, f1013]
      refine Eq.trans ?_ (gM_13).symm
      rw [m_z1013]
    by_cases n1014 : x = 1014
    · rw [n1014, f1014]
      refine Eq.trans ?_ (gM_14).symm
      rw [m_z1014]
    by_cases n1015 : x = 1015
    · rw [n1015, f1015]
      rw [show vp_updL (vp_updL (vp_updL (vp_updL (fun _ => 0) 0 1) 1 1) 2 1) 3 1 = mB0 15 from m_lit1015]
      rfl
    by_cases n1016 : x = 1016
    · rw [n1016, f1016]
      rw [show vp_updL (vp_updL (vp_updL (vp_updL (fun _ => 0) 0 1) 1 1) 2 1) 3 1 = mB0 16 from m_lit1016]
      rfl
    by_cases n1021 : x = 1021
    · rw [n1021, f1021]
      refine Eq.trans ?_ (gM_21).symm
      rw [m_z1021]
    by_cases n1022 : x = 1022
    · rw [n1022, f1022]
      refine Eq.trans ?_ (gM_22).symm
      rw [m_z1022]
    by_cases n1023 : x = 1023
    · rw [n1023, f1023]
      rw [show upd (upd (upd (upd (upd (upd (upd (upd (upd (upd (upd (upd (fun _ => 0) 0 (-1)) 1 (-1)) 2 (-1)) 3 (-1)) 4 (-1)) 5 (-1)) 6 (-1)) 7 (-1)) 8 (-1)) 9 (-1)) 10 (-1)) 11 (-1) = mA0 23 from m_lit1023]
      rfl
    by_cases n1024 : x = 1024
    · rw [n1024, f1024]
      refine Eq.trans ?_ (gM_24).symm
      rw [m_z1024]
    by_cases n1025 : x = 1025
    · rw [n1025, f1025]
      refine Eq.trans ?_ (gM_25).symm
      rw [m_z1025]
    by_cases hb9 : x < 1000 ∨ 1100 ≤ x
    · rw [hoth x hb9, gM_out hb9]
    rw [hno x (by omega) (by omega) n1000 n1003 n1004 n1005 n1006 n1007 n1008 n1009 n1010 n1011 n1012 n1013 n1014 n1015 n1016 n1021 n1022 n1023 n1024 n1025]
    unfold gM
    rw [if_neg n1000, if_neg n1003, if_neg n1004, if_neg n1005, if_neg n1006, if_neg n1007, if_neg n1008, if_neg n1009, if_neg n1010, if_neg n1011, if_neg n1012, if_neg n1013, if_neg n1014, if_neg n1015, if_neg n1016, if_neg n1021, if_neg n1022, if_neg n1023, if_neg n1024, if_neg n1025, hn x (by omega) (by omega)]) d_M_init_370 hlocks
