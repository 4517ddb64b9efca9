set_option maxHeartbeats 4000000 in
set_option maxRecDepth 100000 in
theorem c_E_init (l : Launch) (D : va_G) (dA : Nat → ClassId) (ad : Nat → Nat) (G : mG) (sz : Nat) (a0 : Nat) (p0 : Int32) (hz : a0 = ad 0) (hn : ∀ r, r < 1000 → r ≠ 0 → G r = none) (hg : G 0 = some (.inr (5, [.int 0, .null, .null, .null, .null, .null, .int 0, .int 0]))) : Met l y_E_init (.code y_E_init b_E_init 3 none :: mBig) ({ frames := 2, cells := 13, slots := 236, locals := 33 }) (mPc [.ref a0, .int p0] D mCl (mTys dA) mTx ad G sz) (mQv (fun (u : mU) => (∃ ad1 : Nat → Nat, (∀ x, 1000 ≤ x → ad1 x = ad x) ∧ ad1 0 = ad 0 ∧ u = (ad1, gE dA ad1 (eI0 p0) eJ0 eF0 (fun _ => 0) 0 0 G))) D mCl ad G sz) 13 236 (mA ad G sz) := by
  refine Met.ofW (cc := b_E_init) (maxL := 3) (ret := none) (by decide) rfl ?_
  intro p e s m args below meth c s₁ B hml hv
  obtain ⟨rfl, hsz, hw0, hC⟩ := hv
  have hx := B.exec
  have hb := B.bytes
  have hr := B.returns
  have hts := atoms_spec (ws := .code y_E_init b_E_init 3 none :: mBig) B.pre
  have hT : ∀ w ∈ mBig, w.before _ s = true := fun w h => hts w (List.mem_cons_of_mem _ h)
  have hown : s.vm.findClass "EdgeWear" = some m.cls := findClass_of_methodNamed B.named
  have hlocks := B.notSynchronized
  subst hsz
  have hm := mS.start hw0
  have hin : meth.name = "<init>" := (name_of_methodNamed B.named B.method).1
  have hA : ∀ q : Nat, s.heap.size ≤ q → mA ad G s.heap.size q := fun q h => Or.inr h
  have hl := lv_entry ([.ref a0, .int p0]) (n := 3) (Nat.le_of_ble_eq_true rfl)
  rw [lg_entry_eq]
  generalize (lg_sl ([.ref a0, .int p0]) ++ List.replicate (3 - (lg_sl ([.ref a0, .int p0])).length) Slot.unset).toArray = ls at hl ⊢
  have hl : lv_has ls 3 [(0, .ref a0), (1, .int p0)] := hl
  refine lv_aload_n hx hb d_E_init_0 rfl (lv_at hl 0 rfl) ?_
  refine W.objInit hx hb hown (hT _ k_21) (hT _ k_22) (hT _ k_23) rfl (by rw [hml]; exact hl.1) rfl d_E_init_1 (Nat.le_of_ble_eq_true rfl) (Nat.le_of_ble_eq_true rfl) ?_
  refine W.eq (g2 := F0 m 4 ls []) rfl ?_
  refine lv_aload_n hx hb d_E_init_4 rfl (lv_at hl 0 rfl) ?_
  refine lv_iload_n hx hb d_E_init_5 rfl (lv_at hl 1 rfl) ?_
  refine m_putF (v := .int p0) (ty := .int) (C := R_E) (T := T_E) (N := 8) hx hb hT in_E t_E tok_E nm_E hown hC.1 hm 0 hz hg rfl 0 (by decide) (hT _ k_87) (fun _ h9 => h9) rfl hin rfl (by decide +kernel) rfl rfl (Nat.le_of_ble_eq_true rfl) d_E_init_6 (fun H locs hm => ?_)
  obtain ⟨G_1, eG_1⟩ : ∃ z : mG, z = va_up G 0 (some (.inr (5, [.int p0, .null, .null, .null, .null, .null, .int 0, .int 0]))) := ⟨_, rfl⟩
  have hm : mS D mCl (mA ad G s.heap.size) s.heap ad G_1 H locs := by rw [eG_1]; exact hm
  have g_2 : G_1 0 = some (.inr (5, [.int p0, .null, .null, .null, .null, .null, .int 0, .int 0])) := by rw [eG_1, va_up_self]
  refine lv_aload_n hx hb d_E_init_9 rfl (lv_at hl 0 rfl) ?_
  refine lv_bipush (v := 16) hx hb d_E_init_10 (by decide) ?_
  refine m_newa (atype := .int) (ty := .int) (a0 := (16, .inl (fun _ => 0))) (cA := (dA 0)) hx hb (hT _ k_59) rfl hm hA 1 (by rw [eG_1, va_up_ne _ _ (by decide)]; exact hn 1 (by decide) (by decide)) (show _ from (hC.1.2 0 _ rfl).2) (fun _ => rfl) (by decide) (by decide) (by decide) (Nat.le_of_ble_eq_true rfl) (Nat.le_of_ble_eq_true rfl) d_E_init_12 (fun q_3 H hm => ?_)
  obtain ⟨G_4, eG_4⟩ : ∃ z : mG, z = va_up G_1 1 (some (.inl ((dA 0), 16, .inl (fun _ => 0)))) := ⟨_, rfl⟩
  obtain ⟨ad_5, ead_5⟩ : ∃ z : Nat → Nat, z = va_up ad 1 q_3 := ⟨_, rfl⟩
  have hm : mS D mCl (mA ad G s.heap.size) s.heap ad_5 G_4 H locs := by rw [eG_4, ead_5]; exact hm
  have g_6 := (congrFun eG_4 0).trans ((va_up_ne _ _ (by decide)).trans g_2)
  have g_7 : G_4 1 = some (.inl ((dA 0), 16, .inl (fun _ => 0))) := by rw [eG_4, va_up_self]
  have z_8 : a0 = ad_5 0 := by rw [ead_5, va_up_ne _ _ (by decide)]; exact hz
  have z_9 : q_3 = ad_5 1 := by rw [ead_5, va_up_self]
  refine m_putF (v := .ref q_3) (ty := (.array .int)) (C := R_E) (T := T_E) (N := 8) hx hb hT in_E t_E tok_E nm_E hown hC.1 hm 0 z_8 g_6 rfl 1 (by decide) (hT _ k_88) (fun _ h9 => h9) rfl hin rfl (by decide +kernel) rfl rfl (Nat.le_of_ble_eq_true rfl) d_E_init_14 (fun H locs hm => ?_)
  obtain ⟨G_10, eG_10⟩ : ∃ z : mG, z = va_up G_4 0 (some (.inr (5, [.int p0, .ref q_3, .null, .null, .null, .null, .int 0, .int 0]))) := ⟨_, rfl⟩
  have hm : mS D mCl (mA ad G s.heap.size) s.heap ad_5 G_10 H locs := by rw [eG_10]; exact hm
  have g_11 : G_10 0 = some (.inr (5, [.int p0, .ref q_3, .null, .null, .null, .null, .int 0, .int 0])) := by rw [eG_10, va_up_self]
  have g_12 := (congrFun eG_10 1).trans ((va_up_ne _ _ (by decide)).trans g_7)
  refine lv_iconst (v := 0) hx hb d_E_init_17 (by decide) ?_
  refine lv_istore_n (lv' := [(2, .int 0), (0, .ref a0), (1, .int p0)]) hx hb d_E_init_18 rfl hl (by decide) rfl (fun ls hl => ?_)
  refine m_loopH (nL := 3) (head := 19) (fun (q9 : Nat) => fun (x : Nat) => match x with | j => q9 + j = 17 ∧ j ≤ 16 ∧ True) (fun (x : Nat) => match x with | j => [(0, .ref a0), (2, .int (nI j))]) (fun (x : Nat) => match x with | j => va_up G_10 1 (some (.inl (dA 0, 16, .inl (fun i => if i < j then 1 else 0))))) (fun j h => by have h1 := h.1; have h2 := h.2.1; omega) (fun q9 x ls H locs hI hl hm ih19 => ?_) 16 0 ⟨by omega, by omega, trivial⟩ (lv_sub hl [1, 0] rfl) (by
    have h9 : va_up G_10 1 (some (.inl (dA 0, 16, .inl (fun i => if i < 0 then 1 else 0)))) = G_10 := by
      funext x
      by_cases h : x = 1
      · rw [h, va_up_self, g_12]
        rfl
      · rw [va_up_ne _ _ h]
    exact h9.symm ▸ hm)
  obtain ⟨j, ej⟩ : ∃ z, z = x := ⟨_, rfl⟩
  subst ej
  replace hI : (fun (q9 : Nat) => q9 + j = 17 ∧ j ≤ 16 ∧ True) (q9 + 1) := hI
  have hl : lv_has ls 3 [(0, .ref a0), (2, .int (nI j))] := hl
  obtain ⟨Gb, eGb⟩ : ∃ z : mG, z = va_up G_10 1 (some (.inl (dA 0, 16, .inl (fun i => if i < j then 1 else 0)))) := ⟨_, rfl⟩
  have hm : mS D mCl (mA ad G s.heap.size) s.heap ad_5 Gb H locs := by rw [eGb]; exact hm
  have g_13 := (congrFun eGb 0).trans ((va_up_ne _ _ (by decide)).trans g_11)
  have g_14 : Gb 1 = some (.inl (dA 0, 16, .inl (fun i => if i < j then 1 else 0))) := by rw [eGb, va_up_self]
  refine lv_iload_n hx hb d_E_init_19 rfl (lv_at hl 1 rfl) ?_
  refine lv_aload_n hx hb d_E_init_20 rfl (lv_at hl 0 rfl) ?_
  refine m_get (v := .ref q_3) (C := R_E) (T := T_E) (N := 8) hx hb hT in_E hown hC.1 hm 0 z_8 g_13 rfl 1 (by decide) (hT _ k_88) (fun _ h9 => h9) rfl d_E_init_21 ?_
  refine m_alen (v := 16) hx hb hC.1 hm 1 z_9 0 g_14 rfl rfl d_E_init_24 ?_
  refine lv_icmp_ge (tgt := 41) hx hb d_E_init_25 (by decide) (fun c_25 => ?_) (fun c_25 => ?_)
  · have hge : j = 16 := by
      have := (nI_leI (a := 16) (by decide) (by omega)).mp c_25
      omega
    refine lv_aload_n hx hb d_E_init_41 rfl (lv_at hl 0 rfl) ?_
    refine lv_iconst (v := 4) hx hb d_E_init_42 (by decide) ?_
    refine m_newq (N' := 4) (cA := (dA 3)) hx hb hown (hT _ k_24) (va_AO.use hC.2.2.2.1.1) hm hA 2 (by rw [eGb, va_up_ne _ _ (by decide), eG_10, va_up_ne _ _ (by decide), eG_4, va_up_ne _ _ (by decide), eG_1, va_up_ne _ _ (by decide)]; exact hn 2 (by decide) (by decide)) (mRA (hC.1.2 3 _ rfl).2) (by decide) (by decide) (by decide) (Nat.le_of_ble_eq_true rfl) (Nat.le_of_ble_eq_true rfl) d_E_init_43 (fun q_15 H hm => ?_)
    obtain ⟨G_16, eG_16⟩ : ∃ z : mG, z = va_up Gb 2 (some (.inl ((dA 3), 4, .inr (.inr (.inr (.inr (fun _ => none))))))) := ⟨_, rfl⟩
    obtain ⟨ad_17, ead_17⟩ : ∃ z : Nat → Nat, z = va_up ad_5 2 q_15 := ⟨_, rfl⟩
    have hm : mS D mCl (mA ad G s.heap.size) s.heap ad_17 G_16 H locs := by rw [eG_16, ead_17]; exact hm
    have g_18 := (congrFun eG_16 0).trans ((va_up_ne _ _ (by decide)).trans g_13)
    have g_19 := (congrFun eG_16 1).trans ((va_up_ne _ _ (by decide)).trans g_14)
    have g_20 : G_16 2 = some (.inl ((dA 3), 4, .inr (.inr (.inr (.inr (fun _ => none)))))) := by rw [eG_16, va_up_self]
    have z_21 : a0 = ad_17 0 := by rw [ead_17, va_up_ne _ _ (by decide)]; exact z_8
    have z_22 : q_3 = ad_17 1 := by rw [ead_17, va_up_ne _ _ (by decide)]; exact z_9
    have z_23 : q_15 = ad_17 2 := by rw [ead_17, va_up_self]
    refine m_putF (v := .ref q_15) (ty := (.array (.object "EdgeWear$Sort"))) (C := R_E) (T := T_E) (N := 8) hx hb hT in_E t_E tok_E nm_E hown hC.1 hm 0 z_21 g_18 rfl 2 (by decide) (hT _ k_89) (fun _ h9 => h9) rfl hin rfl (by decide +kernel) rfl rfl (Nat.le_of_ble_eq_true rfl) d_E_init_46 (fun H locs hm => ?_)
    obtain ⟨G_24, eG_24⟩ : ∃ z : mG, z = va_up G_16 0 (some (.inr (5, [.int p0, .ref q_3, .ref q_15, .null, .null, .null, .int 0, .int 0]))) := ⟨_, rfl⟩
    have hm : mS D mCl (mA ad G s.heap.size) s.heap ad_17 G_24 H locs := by rw [eG_24]; exact hm
    have g_25 : G_24 0 = some (.inr (5, [.int p0, .ref q_3, .ref q_15, .null, .null, .null, .int 0, .int 0])) := by rw [eG_24, va_up_self]
    have g_26 := (congrFun eG_24 1).trans ((va_up_ne _ _ (by decide)).trans g_19)
    have g_27 := (congrFun eG_24 2).trans ((va_up_ne _ _ (by decide)).trans g_20)
    refine lv_iconst (v := 0) hx hb d_E_init_49 (by decide) ?_
    refine lv_istore_n (lv' := [(2, .int 0), (0, .ref a0)]) hx hb d_E_init_50 rfl hl (by decide) rfl (fun ls hl => ?_)
    refine lv_iload_n hx hb d_E_init_51 rfl (lv_at hl 0 rfl) ?_
    refine lv_aload_n hx hb d_E_init_52 rfl (lv_at hl 1 rfl) ?_
    refine m_get (v := .ref q_15) (C := R_E) (T := T_E) (N := 8) hx hb hT in_E hown hC.1 hm 0 z_21 g_25 rfl 2 (by decide) (hT _ k_89) (fun _ h9 => h9) rfl d_E_init_53 ?_
    refine m_alen (v := 4) hx hb hC.1 hm 2 z_23 3 g_27 rfl rfl d_E_init_56 ?_
    refine lv_icmp_ge (tgt := 80) hx hb d_E_init_57 (by decide) (fun c9 => absurd c9 (by decide)) (fun _ => ?_)
    refine lv_aload_n hx hb d_E_init_60 rfl (lv_at hl 1 rfl) ?_
    refine m_get (v := .ref q_15) (C := R_E) (T := T_E) (N := 8) hx hb hT in_E hown hC.1 hm 0 z_21 g_25 rfl 2 (by decide) (hT _ k_89) (fun _ h9 => h9) rfl d_E_init_61 ?_
    refine lv_iload_n hx hb d_E_init_64 rfl (lv_at hl 0 rfl) ?_
    refine m_new (ci := 3) (fs := [.int 0, .null, .int 0, .long 0, .int 0, .int 0]) (C := R_So) (T := T_So) (N := 6) hx hb hT in_So t_So tok_So hown (hT _ k_24) (hT _ k_26) (hT _ k_2) hC.1 hm hA 10 (by rw [eG_24, va_up_ne _ _ (by decide), eG_16, va_up_ne _ _ (by decide), eGb, va_up_ne _ _ (by decide), eG_10, va_up_ne _ _ (by decide), eG_4, va_up_ne _ _ (by decide), eG_1, va_up_ne _ _ (by decide)]; exact hn 10 (by decide) (by decide)) rfl (fun j hj => by rcases (show j = 0 ∨ j = 1 ∨ j = 2 ∨ j = 3 ∨ j = 4 ∨ j = 5 by omega) with rfl | rfl | rfl | rfl | rfl | rfl <;> rfl) (Nat.le_of_ble_eq_true rfl) (Nat.le_of_ble_eq_true rfl) d_E_init_65 (fun q_28 H hm => ?_)
    obtain ⟨G_29, eG_29⟩ : ∃ z : mG, z = va_up G_24 10 (some (.inr (3, [.int 0, .null, .int 0, .long 0, .int 0, .int 0]))) := ⟨_, rfl⟩
    obtain ⟨ad_30, ead_30⟩ : ∃ z : Nat → Nat, z = va_up ad_17 10 q_28 := ⟨_, rfl⟩
    have hm : mS D mCl (mA ad G s.heap.size) s.heap ad_30 G_29 H locs := by rw [eG_29, ead_30]; exact hm
    have g_31 := (congrFun eG_29 0).trans ((va_up_ne _ _ (by decide)).trans g_25)
    have g_32 := (congrFun eG_29 1).trans ((va_up_ne _ _ (by decide)).trans g_26)
    have g_33 := (congrFun eG_29 2).trans ((va_up_ne _ _ (by decide)).trans g_27)
    have g_34 : G_29 10 = some (.inr (3, [.int 0, .null, .int 0, .long 0, .int 0, .int 0])) := by rw [eG_29, va_up_self]
    have z_35 : a0 = ad_30 0 := by rw [ead_30, va_up_ne _ _ (by decide)]; exact z_21
    have z_36 : q_3 = ad_30 1 := by rw [ead_30, va_up_ne _ _ (by decide)]; exact z_22
    have z_37 : q_15 = ad_30 2 := by rw [ead_30, va_up_ne _ _ (by decide)]; exact z_23
    have z_38 : q_28 = ad_30 10 := by rw [ead_30, va_up_self]
    refine lv_dup hx hb d_E_init_68 rfl ?_
    refine lv_iload_n hx hb d_E_init_69 rfl (lv_at hl 0 rfl) ?_
    refine m_callv (m_runI (As := [.int 0]) (rest := [.ref q_28, .int 0, .ref q_15]) ⟨hx, hb, hml, hown, hts⟩ (c_So_init l D dA ad_30 G_29 H.size q_28 10 20 0 (by decide) (by rw [eG_29, va_up_ne _ _ (by decide), eG_24, va_up_ne _ _ (by decide), eG_16, va_up_ne _ _ (by decide), eGb, va_up_ne _ _ (by decide), eG_10, va_up_ne _ _ (by decide), eG_4, va_up_ne _ _ (by decide), eG_1, va_up_ne _ _ (by decide)]; exact hn 20 (by decide) (by decide)) z_38 g_34) (cwI 1 hts (gI k_29) rfl rfl rfl (hT _ k_2) (hT _ k_27) (hT _ k_28) rfl (by decide +kernel) ⟨Nat.le_of_ble_eq_true rfl, Nat.le_of_ble_eq_true rfl⟩) hm hA hC rfl hl.1 rfl (Nat.le_of_ble_eq_true rfl) d_E_init_70 ⟨Nat.le_of_ble_eq_true rfl, Nat.le_of_ble_eq_true rfl⟩) hm hA (fun ad_42 G_41 H locs w_40 hm => ?_)
    obtain ⟨q_43, u_44⟩ := w_40
    obtain ⟨ead_42, eG_41⟩ := Prod.mk.inj u_44
    have g_45 := (congrFun eG_41 0).trans ((va_up_ne _ _ (by decide)).trans ((va_up_ne _ _ (by decide)).trans g_31))
    have g_46 := (congrFun eG_41 1).trans ((va_up_ne _ _ (by decide)).trans ((va_up_ne _ _ (by decide)).trans g_32))
    have g_47 := (congrFun eG_41 2).trans ((va_up_ne _ _ (by decide)).trans ((va_up_ne _ _ (by decide)).trans g_33))
    have g_48 : G_41 10 = some (.inr (3, [.int 0, .ref q_43, .int 0, .long 1000000, .int 1, .int 1])) := by rw [eG_41, va_up_self]
    have g_49 : G_41 20 = some (.inl (dA 0, 40, .inl (fun _ => 0))) := by rw [eG_41, va_up_ne _ _ (by decide), va_up_self]
    have z_50 : a0 = ad_42 0 := by rw [ead_42, va_up_ne _ _ (by decide)]; exact z_35
    have z_51 : q_3 = ad_42 1 := by rw [ead_42, va_up_ne _ _ (by decide)]; exact z_36
    have z_52 : q_15 = ad_42 2 := by rw [ead_42, va_up_ne _ _ (by decide)]; exact z_37
    have z_53 : q_28 = ad_42 10 := by rw [ead_42, va_up_ne _ _ (by decide)]; exact z_38
    have z_54 : q_43 = ad_42 20 := by rw [ead_42, va_up_self]
    refine m_aast (r' := (R_So, T_So, 6)) hx hb hC.1 hm 2 z_52 3 10 3 z_53 g_47 rfl g_48 rfl (vpc _ _ (by decide)) d_E_init_73 (fun H locs hm => ?_)
    obtain ⟨G_55, eG_55⟩ : ∃ z : mG, z = va_up G_41 2 (some (.inl ((dA 3), 4, .inr (.inr (.inr (.inr (va_up (fun _ => none) 0 (some q_28)))))))) := ⟨_, rfl⟩
    have hm : mS D mCl (mA ad G s.heap.size) s.heap ad_42 G_55 H locs := by rw [eG_55]; exact hm
    have g_56 := (congrFun eG_55 0).trans ((va_up_ne _ _ (by decide)).trans g_45)
    have g_57 := (congrFun eG_55 1).trans ((va_up_ne _ _ (by decide)).trans g_46)
    have g_58 : G_55 2 = some (.inl ((dA 3), 4, .inr (.inr (.inr (.inr (va_up (fun _ => none) 0 (some q_28))))))) := by rw [eG_55, va_up_self]
    have g_59 := (congrFun eG_55 10).trans ((va_up_ne _ _ (by decide)).trans g_48)
    have g_60 := (congrFun eG_55 20).trans ((va_up_ne _ _ (by decide)).trans g_49)
    refine lv_iinc (v := 1) (lv' := [(2, .int 1), (0, .ref a0)]) hx hb d_E_init_74 hl (k := 0) rfl (by decide) (by decide) rfl (fun ls hl => ?_)
    refine lv_goto (tgt := 51) hx hb d_E_init_77 (by decide) ?_
    refine lv_iload_n hx hb d_E_init_51 rfl (lv_at hl 0 rfl) ?_
    refine lv_aload_n hx hb d_E_init_52 rfl (lv_at hl 1 rfl) ?_
    refine m_get (v := .ref q_15) (C := R_E) (T := T_E) (N := 8) hx hb hT in_E hown hC.1 hm 0 z_50 g_56 rfl 2 (by decide) (hT _ k_89) (fun _ h9 => h9) rfl d_E_init_53 ?_
    refine m_alen (v := 4) hx hb hC.1 hm 2 z_52 3 g_58 rfl rfl d_E_init_56 ?_
    refine lv_icmp_ge (tgt := 80) hx hb d_E_init_57 (by decide) (fun c9 => absurd c9 (by decide)) (fun _ => ?_)
    refine lv_aload_n hx hb d_E_init_60 rfl (lv_at hl 1 rfl) ?_
    refine m_get (v := .ref q_15) (C := R_E) (T := T_E) (N := 8) hx hb hT in_E hown hC.1 hm 0 z_50 g_56 rfl 2 (by decide) (hT _ k_89) (fun _ h9 => h9) rfl d_E_init_61 ?_
    refine lv_iload_n hx hb d_E_init_64 rfl (lv_at hl 0 rfl) ?_
    refine m_new (ci := 3) (fs := [.int 0, .null, .int 0, .long 0, .int 0, .int 0]) (C := R_So) (T := T_So) (N := 6) hx hb hT in_So t_So tok_So hown (hT _ k_24) (hT _ k_26) (hT _ k_2) hC.1 hm hA 11 (by rw [eG_55, va_up_ne _ _ (by decide), eG_41, va_up_ne _ _ (by decide), va_up_ne _ _ (by decide), eG_29, va_up_ne _ _ (by decide), eG_24, va_up_ne _ _ (by decide), eG_16, va_up_ne _ _ (by decide), eGb, va_up_ne _ _ (by decide), eG_10, va_up_ne _ _ (by decide), eG_4, va_up_ne _ _ (by decide), eG_1, va_up_ne _ _ (by decide)]; exact hn 11 (by decide) (by decide)) rfl (fun j hj => by rcases (show j = 0 ∨ j = 1 ∨ j = 2 ∨ j = 3 ∨ j = 4 ∨ j = 5 by omega) with rfl | rfl | rfl | rfl | rfl | rfl <;> rfl) (Nat.le_of_ble_eq_true rfl) (Nat.le_of_ble_eq_true rfl) d_E_init_65 (fun q_61 H hm => ?_)
    obtain ⟨G_62, eG_62⟩ : ∃ z : mG, z = va_up G_55 11 (some (.inr (3, [.int 0, .null, .int 0, .long 0, .int 0, .int 0]))) := ⟨_, rfl⟩
    obtain ⟨ad_63, ead_63⟩ : ∃ z : Nat → Nat, z = va_up ad_42 11 q_61 := ⟨_, rfl⟩
    have hm : mS D mCl (mA ad G s.heap.size) s.heap ad_63 G_62 H locs := by rw [eG_62, ead_63]; exact hm
    have g_64 := (congrFun eG_62 0).trans ((va_up_ne _ _ (by decide)).trans g_56)
    have g_65 := (congrFun eG_62 1).trans ((va_up_ne _ _ (by decide)).trans g_57)
    have g_66 := (congrFun eG_62 2).trans ((va_up_ne _ _ (by decide)).trans g_58)
    have g_67 := (congrFun eG_62 10).trans ((va_up_ne _ _ (by decide)).trans g_59)
    have g_68 := (congrFun eG_62 20).trans ((va_up_ne _ _ (by decide)).trans g_60)
    have g_69 : G_62 11 = some (.inr (3, [.int 0, .null, .int 0, .long 0, .int 0, .int 0])) := by rw [eG_62, va_up_self]
    have z_70 : a0 = ad_63 0 := by rw [ead_63, va_up_ne _ _ (by decide)]; exact z_50
    have z_71 : q_3 = ad_63 1 := by rw [ead_63, va_up_ne _ _ (by decide)]; exact z_51
    have z_72 : q_15 = ad_63 2 := by rw [ead_63, va_up_ne _ _ (by decide)]; exact z_52
    have z_73 : q_28 = ad_63 10 := by rw [ead_63, va_up_ne _ _ (by decide)]; exact z_53
    have z_74 : q_43 = ad_63 20 := by rw [ead_63, va_up_ne _ _ (by decide)]; exact z_54
    have z_75 : q_61 = ad_63 11 := by rw [ead_63, va_up_self]
    refine lv_dup hx hb d_E_init_68 rfl ?_
    refine lv_iload_n hx hb d_E_init_69 rfl (lv_at hl 0 rfl) ?_
    refine m_callv (m_runI (As := [.int 1]) (rest := [.ref q_61, .int 1, .ref q_15]) ⟨hx, hb, hml, hown, hts⟩ (c_So_init l D dA ad_63 G_62 H.size q_61 11 21 1 (by decide) (by rw [eG_62, va_up_ne _ _ (by decide), eG_55, va_up_ne _ _ (by decide), eG_41, va_up_ne _ _ (by decide), va_up_ne _ _ (by decide), eG_29, va_up_ne _ _ (by decide), eG_24, va_up_ne _ _ (by decide), eG_16, va_up_ne _ _ (by decide), eGb, va_up_ne _ _ (by decide), eG_10, va_up_ne _ _ (by decide), eG_4, va_up_ne _ _ (by decide), eG_1, va_up_ne _ _ (by decide)]; exact hn 21 (by decide) (by decide)) z_75 g_69) (cwI 1 hts (gI k_29) rfl rfl rfl (hT _ k_2) (hT _ k_27) (hT _ k_28) rfl (by decide +kernel) ⟨Nat.le_of_ble_eq_true rfl, Nat.le_of_ble_eq_true rfl⟩) hm hA hC rfl hl.1 rfl (Nat.le_of_ble_eq_true rfl) d_E_init_70 ⟨Nat.le_of_ble_eq_true rfl, Nat.le_of_ble_eq_true rfl⟩) hm hA (fun ad_79 G_78 H locs w_77 hm => ?_)
    obtain ⟨q_80, u_81⟩ := w_77
    obtain ⟨ead_79, eG_78⟩ := Prod.mk.inj u_81
    have g_82 := (congrFun eG_78 0).trans ((va_up_ne _ _ (by decide)).trans ((va_up_ne _ _ (by decide)).trans g_64))
    have g_83 := (congrFun eG_78 1).trans ((va_up_ne _ _ (by decide)).trans ((va_up_ne _ _ (by decide)).trans g_65))
    have g_84 := (congrFun eG_78 2).trans ((va_up_ne _ _ (by decide)).trans ((va_up_ne _ _ (by decide)).trans g_66))
    have g_85 := (congrFun eG_78 10).trans ((va_up_ne _ _ (by decide)).trans ((va_up_ne _ _ (by decide)).trans g_67))
    have g_86 := (congrFun eG_78 20).trans ((va_up_ne _ _ (by decide)).trans ((va_up_ne _ _ (by decide)).trans g_68))
    have g_87 : G_78 11 = some (.inr (3, [.int 1, .ref q_80, .int 0, .long 1000000, .int 1, .int 1])) := by rw [eG_78, va_up_self]
    have g_88 : G_78 21 = some (.inl (dA 0, 40, .inl (fun _ => 0))) := by rw [eG_78, va_up_ne _ _ (by decide), va_up_self]
    have z_89 : a0 = ad_79 0 := by rw [ead_79, va_up_ne _ _ (by decide)]; exact z_70
    have z_90 : q_3 = ad_79 1 := by rw [ead_79, va_up_ne _ _ (by decide)]; exact z_71
    have z_91 : q_15 = ad_79 2 := by rw [ead_79, va_up_ne _ _ (by decide)]; exact z_72
    have z_92 : q_28 = ad_79 10 := by rw [ead_79, va_up_ne _ _ (by decide)]; exact z_73
    have z_93 : q_43 = ad_79 20 := by rw [ead_79, va_up_ne _ _ (by decide)]; exact z_74
    have z_94 : q_61 = ad_79 11 := by rw [ead_79, va_up_ne _ _ (by decide)]; exact z_75
    have z_95 : q_80 = ad_79 21 := by rw [ead_79, va_up_self]
    refine m_aast (r' := (R_So, T_So, 6)) hx hb hC.1 hm 2 z_91 3 11 3 z_94 g_84 rfl g_87 rfl (vpc _ _ (by decide)) d_E_init_73 (fun H locs hm => ?_)
    obtain ⟨G_96, eG_96⟩ : ∃ z : mG, z = va_up G_78 2 (some (.inl ((dA 3), 4, .inr (.inr (.inr (.inr (va_up (va_up (fun _ => none) 0 (some q_28)) 1 (some q_61)))))))) := ⟨_, rfl⟩
    have hm : mS D mCl (mA ad G s.heap.size) s.heap ad_79 G_96 H locs := by rw [eG_96]; exact hm
    have g_97 := (congrFun eG_96 0).trans ((va_up_ne _ _ (by decide)).trans g_82)
    have g_98 := (congrFun eG_96 1).trans ((va_up_ne _ _ (by decide)).trans g_83)
    have g_99 : G_96 2 = some (.inl ((dA 3), 4, .inr (.inr (.inr (.inr (va_up (va_up (fun _ => none) 0 (some q_28)) 1 (some q_61))))))) := by rw [eG_96, va_up_self]
    have g_100 := (congrFun eG_96 10).trans ((va_up_ne _ _ (by decide)).trans g_85)
    have g_101 := (congrFun eG_96 20).trans ((va_up_ne _ _ (by decide)).trans g_86)
    have g_102 := (congrFun eG_96 11).trans ((va_up_ne _ _ (by decide)).trans g_87)
    have g_103 := (congrFun eG_96 21).trans ((va_up_ne _ _ (by decide)).trans g_88)
    refine lv_iinc (v := 2) (lv' := [(2, .int 2), (0, .ref a0)]) hx hb d_E_init_74 hl (k := 0) rfl (by decide) (by decide) rfl (fun ls hl => ?_)
    refine lv_goto (tgt := 51) hx hb d_E_init_77 (by decide) ?_
    refine lv_iload_n hx hb d_E_init_51 rfl (lv_at hl 0 rfl) ?_
    refine lv_aload_n hx hb d_E_init_52 rfl (lv_at hl 1 rfl) ?_
    refine m_get (v := .ref q_15) (C := R_E) (T := T_E) (N := 8) hx hb hT in_E hown hC.1 hm 0 z_89 g_97 rfl 2 (by decide) (hT _ k_89) (fun _ h9 => h9) rfl d_E_init_53 ?_
    refine m_alen (v := 4) hx hb hC.1 hm 2 z_91 3 g_99 rfl rfl d_E_init_56 ?_
    refine lv_icmp_ge (tgt := 80) hx hb d_E_init_57 (by decide) (fun c9 => absurd c9 (by decide)) (fun _ => ?_)
    refine lv_aload_n hx hb d_E_init_60 rfl (lv_at hl 1 rfl) ?_
    refine m_get (v := .ref q_15) (C := R_E) (T := T_E) (N := 8) hx hb hT in_E hown hC.1 hm 0 z_89 g_97 rfl 2 (by decide) (hT _ k_89) (fun _ h9 => h9) rfl d_E_init_61 ?_
    refine lv_iload_n hx hb d_E_init_64 rfl (lv_at hl 0 rfl) ?_
    refine m_new (ci := 3) (fs := [.int 0, .null, .int 0, .long 0, .int 0, .int 0]) (C := R_So) (T := T_So) (N := 6) hx hb hT in_So t_So tok_So hown (hT _ k_24) (hT _ k_26) (hT _ k_2) hC.1 hm hA 12 (by rw [eG_96, va_up_ne _ _ (by decide), eG_78, va_up_ne _ _ (by decide), va_up_ne _ _ (by decide), eG_62, va_up_ne _ _ (by decide), eG_55, va_up_ne _ _ (by decide), eG_41, va_up_ne _ _ (by decide), va_up_ne _ _ (by decide), eG_29, va_up_ne _ _ (by decide), eG_24, va_up_ne _ _ (by decide), eG_16, va_up_ne _ _ (by decide), eGb, va_up_ne _ _ (by decide), eG_10, va_up_ne _ _ (by decide), eG_4, va_up_ne _ _ (by decide), eG_1, va_up_ne _ _ (by decide)]; exact hn 12 (by decide) (by decide)) rfl (fun j hj => by rcases (show j = 0 ∨ j = 1 ∨ j = 2 ∨ j = 3 ∨ j = 4 ∨ j = 5 by omega) with rfl | rfl | rfl | rfl | rfl | rfl <;> rfl) (Nat.le_of_ble_eq_true rfl) (Nat.le_of_ble_eq_true rfl) d_E_init_65 (fun q_104 H hm => ?_)
    obtain ⟨G_105, eG_105⟩ : ∃ z : mG, z = va_up G_96 12 (some (.inr (3, [.int 0, .null, .int 0, .long 0, .int 0, .int 0]))) := ⟨_, rfl⟩
    obtain ⟨ad_106, ead_106⟩ : ∃ z : Nat → Nat, z = va_up ad_79 12 q_104 := ⟨_, rfl⟩
    have hm : mS D mCl (mA ad G s.heap.size) s.heap ad_106 G_105 H locs := by rw [eG_105, ead_106]; exact hm
    have g_107 := (congrFun eG_105 0).trans ((va_up_ne _ _ (by decide)).trans g_97)
    have g_108 := (congrFun eG_105 1).trans ((va_up_ne _ _ (by decide)).trans g_98)
    have g_109 := (congrFun eG_105 2).trans ((va_up_ne _ _ (by decide)).trans g_99)
    have g_110 := (congrFun eG_105 10).trans ((va_up_ne _ _ (by decide)).trans g_100)
    have g_111 := (congrFun eG_105 20).trans ((va_up_ne _ _ (by decide)).trans g_101)
    have g_112 := (congrFun eG_105 11).trans ((va_up_ne _ _ (by decide)).trans g_102)
    have g_113 := (congrFun eG_105 21).trans ((va_up_ne _ _ (by decide)).trans g_103)
    have g_114 : G_105 12 = some (.inr (3, [.int 0, .null, .int 0, .long 0, .int 0, .int 0])) := by rw [eG_105, va_up_self]
    have z_115 : a0 = ad_106 0 := by rw [ead_106, va_up_ne _ _ (by decide)]; exact z_89
    have z_116 : q_3 = ad_106 1 := by rw [ead_106, va_up_ne _ _ (by decide)]; exact z_90
    have z_117 : q_15 = ad_106 2 := by rw [ead_106, va_up_ne _ _ (by decide)]; exact z_91
    have z_118 : q_28 = ad_106 10 := by rw [ead_106, va_up_ne _ _ (by decide)]; exact z_92
    have z_119 : q_43 = ad_106 20 := by rw [ead_106, va_up_ne _ _ (by decide)]; exact z_93
    have z_120 : q_61 = ad_106 11 := by rw [ead_106, va_up_ne _ _ (by decide)]; exact z_94
    have z_121 : q_80 = ad_106 21 := by rw [ead_106, va_up_ne _ _ (by decide)]; exact z_95
    have z_122 : q_104 = ad_106 12 := by rw [ead_106, va_up_self]
    refine lv_dup hx hb d_E_init_68 rfl ?_
    refine lv_iload_n hx hb d_E_init_69 rfl (lv_at hl 0 rfl) ?_
    refine m_callv (m_runI (As := [.int 2]) (rest := [.ref q_104, .int 2, .ref q_15]) ⟨hx, hb, hml, hown, hts⟩ (c_So_init l D dA ad_106 G_105 H.size q_104 12 22 2 (by decide) (by rw [eG_105, va_up_ne _ _ (by decide), eG_96, va_up_ne _ _ (by decide), eG_78, va_up_ne _ _ (by decide), va_up_ne _ _ (by decide), eG_62, va_up_ne _ _ (by decide), eG_55, va_up_ne _ _ (by decide), eG_41, va_up_ne _ _ (by decide), va_up_ne _ _ (by decide), eG_29, va_up_ne _ _ (by decide), eG_24, va_up_ne _ _ (by decide), eG_16, va_up_ne _ _ (by decide), eGb, va_up_ne _ _ (by decide), eG_10, va_up_ne _ _ (by decide), eG_4, va_up_ne _ _ (by decide), eG_1, va_up_ne _ _ (by decide)]; exact hn 22 (by decide) (by decide)) z_122 g_114) (cwI 1 hts (gI k_29) rfl rfl rfl (hT _ k_2) (hT _ k_27) (hT _ k_28) rfl (by decide +kernel) ⟨Nat.le_of_ble_eq_true rfl, Nat.le_of_ble_eq_true rfl⟩) hm hA hC rfl hl.1 rfl (Nat.le_of_ble_eq_true rfl) d_E_init_70 ⟨Nat.le_of_ble_eq_true rfl, Nat.le_of_ble_eq_true rfl⟩) hm hA (fun ad_126 G_125 H locs w_124 hm => ?_)
    obtain ⟨q_127, u_128⟩ := w_124
    obtain ⟨ead_126, eG_125⟩ := Prod.mk.inj u_128
    have g_129 := (congrFun eG_125 0).trans ((va_up_ne _ _ (by decide)).trans ((va_up_ne _ _ (by decide)).trans g_107))
    have g_130 := (congrFun eG_125 1).trans ((va_up_ne _ _ (by decide)).trans ((va_up_ne _ _ (by decide)).trans g_108))
    have g_131 := (congrFun eG_125 2).trans ((va_up_ne _ _ (by decide)).trans ((va_up_ne _ _ (by decide)).trans g_109))
    have g_132 := (congrFun eG_125 10).trans ((va_up_ne _ _ (by decide)).trans ((va_up_ne _ _ (by decide)).trans g_110))
    have g_133 := (congrFun eG_125 20).trans ((va_up_ne _ _ (by decide)).trans ((va_up_ne _ _ (by decide)).trans g_111))
    have g_134 := (congrFun eG_125 11).trans ((va_up_ne _ _ (by decide)).trans ((va_up_ne _ _ (by decide)).trans g_112))
    have g_135 := (congrFun eG_125 21).trans ((va_up_ne _ _ (by decide)).trans ((va_up_ne _ _ (by decide)).trans g_113))
    have g_136 : G_125 12 = some (.inr (3, [.int 2, .ref q_127, .int 0, .long 1000000, .int 1, .int 1])) := by rw [eG_125, va_up_self]
    have g_137 : G_125 22 = some (.inl (dA 0, 40, .inl (fun _ => 0))) := by rw [eG_125, va_up_ne _ _ (by decide), va_up_self]
    have z_138 : a0 = ad_126 0 := by rw [ead_126, va_up_ne _ _ (by decide)]; exact z_115
    have z_139 : q_3 = ad_126 1 := by rw [ead_126, va_up_ne _ _ (by decide)]; exact z_116
    have z_140 : q_15 = ad_126 2 := by rw [ead_126, va_up_ne _ _ (by decide)]; exact z_117
    have z_141 : q_28 = ad_126 10 := by rw [ead_126, va_up_ne _ _ (by decide)]; exact z_118
    have z_142 : q_43 = ad_126 20 := by rw [ead_126, va_up_ne _ _ (by decide)]; exact z_119
    have z_143 : q_61 = ad_126 11 := by rw [ead_126, va_up_ne _ _ (by decide)]; exact z_120
    have z_144 : q_80 = ad_126 21 := by rw [ead_126, va_up_ne _ _ (by decide)]; exact z_121
    have z_145 : q_104 = ad_126 12 := by rw [ead_126, va_up_ne _ _ (by decide)]; exact z_122
    have z_146 : q_127 = ad_126 22 := by rw [ead_126, va_up_self]
    refine m_aast (r' := (R_So, T_So, 6)) hx hb hC.1 hm 2 z_140 3 12 3 z_145 g_131 rfl g_136 rfl (vpc _ _ (by decide)) d_E_init_73 (fun H locs hm => ?_)
    obtain ⟨G_147, eG_147⟩ : ∃ z : mG, z = va_up G_125 2 (some (.inl ((dA 3), 4, .inr (.inr (.inr (.inr (va_up (va_up (va_up (fun _ => none) 0 (some q_28)) 1 (some q_61)) 2 (some q_104)))))))) := ⟨_, rfl⟩
    have hm : mS D mCl (mA ad G s.heap.size) s.heap ad_126 G_147 H locs := by rw [eG_147]; exact hm
    have g_148 := (congrFun eG_147 0).trans ((va_up_ne _ _ (by decide)).trans g_129)
    have g_149 := (congrFun eG_147 1).trans ((va_up_ne _ _ (by decide)).trans g_130)
    have g_150 : G_147 2 = some (.inl ((dA 3), 4, .inr (.inr (.inr (.inr (va_up (va_up (va_up (fun _ => none) 0 (some q_28)) 1 (some q_61)) 2 (some q_104))))))) := by rw [eG_147, va_up_self]
    have g_151 := (congrFun eG_147 10).trans ((va_up_ne _ _ (by decide)).trans g_132)
    have g_152 := (congrFun eG_147 20).trans ((va_up_ne _ _ (by decide)).trans g_133)
    have g_153 := (congrFun eG_147 11).trans ((va_up_ne _ _ (by decide)).trans g_134)
    have g_154 := (congrFun eG_147 21).trans ((va_up_ne _ _ (by decide)).trans g_135)
    have g_155 := (congrFun eG_147 12).trans ((va_up_ne _ _ (by decide)).trans g_136)
    have g_156 := (congrFun eG_147 22).trans ((va_up_ne _ _ (by decide)).trans g_137)
    refine lv_iinc (v := 3) (lv' := [(2, .int 3), (0, .ref a0)]) hx hb d_E_init_74 hl (k := 0) rfl (by decide) (by decide) rfl (fun ls hl => ?_)
    refine lv_goto (tgt := 51) hx hb d_E_init_77 (by decide) ?_
    refine lv_iload_n hx hb d_E_init_51 rfl (lv_at hl 0 rfl) ?_
    refine lv_aload_n hx hb d_E_init_52 rfl (lv_at hl 1 rfl) ?_
    refine m_get (v := .ref q_15) (C := R_E) (T := T_E) (N := 8) hx hb hT in_E hown hC.1 hm 0 z_138 g_148 rfl 2 (by decide) (hT _ k_89) (fun _ h9 => h9) rfl d_E_init_53 ?_
    refine m_alen (v := 4) hx hb hC.1 hm 2 z_140 3 g_150 rfl rfl d_E_init_56 ?_
    refine lv_icmp_ge (tgt := 80) hx hb d_E_init_57 (by decide) (fun c9 => absurd c9 (by decide)) (fun _ => ?_)
    refine lv_aload_n hx hb d_E_init_60 rfl (lv_at hl 1 rfl) ?_
    refine m_get (v := .ref q_15) (C := R_E) (T := T_E) (N := 8) hx hb hT in_E hown hC.1 hm 0 z_138 g_148 rfl 2 (by decide) (hT _ k_89) (fun _ h9 => h9) rfl d_E_init_61 ?_
    refine lv_iload_n hx hb d_E_init_64 rfl (lv_at hl 0 rfl) ?_
    refine m_new (ci := 3) (fs := [.int 0, .null, .int 0, .long 0, .int 0, .int 0]) (C := R_So) (T := T_So) (N := 6) hx hb hT in_So t_So tok_So hown (hT _ k_24) (hT _ k_26) (hT _ k_2) hC.1 hm hA 13 (by rw [eG_147, va_up_ne _ _ (by decide), eG_125, va_up_ne _ _ (by decide), va_up_ne _ _ (by decide), eG_105, va_up_ne _ _ (by decide), eG_96, va_up_ne _ _ (by decide), eG_78, va_up_ne _ _ (by decide), va_up_ne _ _ (by decide), eG_62, va_up_ne _ _ (by decide), eG_55, va_up_ne _ _ (by decide), eG_41, va_up_ne _ _ (by decide), va_up_ne _ _ (by decide), eG_29, va_up_ne _ _ (by decide), eG_24, va_up_ne _ _ (by decide), eG_16, va_up_ne _ _ (by decide), eGb, va_up_ne _ _ (by decide), eG_10, va_up_ne _ _ (by decide), eG_4, va_up_ne _ _ (by decide), eG_1, va_up_ne _ _ (by decide)]; exact hn 13 (by decide) (by decide)) rfl (fun j hj => by rcases (show j = 0 ∨ j = 1 ∨ j = 2 ∨ j = 3 ∨ j = 4 ∨ j = 5 by omega) with rfl | rfl | rfl | rfl | rfl | rfl <;> rfl) (Nat.le_of_ble_eq_true rfl) (Nat.le_of_ble_eq_true rfl) d_E_init_65 (fun q_157 H hm => ?_)
    obtain ⟨G_158, eG_158⟩ : ∃ z : mG, z = va_up G_147 13 (some (.inr (3, [.int 0, .null, .int 0, .long 0, .int 0, .int 0]))) := ⟨_, rfl⟩
    obtain ⟨ad_159, ead_159⟩ : ∃ z : Nat → Nat, z = va_up ad_126 13 q_157 := ⟨_, rfl⟩
    have hm : mS D mCl (mA ad G s.heap.size) s.heap ad_159 G_158 H locs := by rw [eG_158, ead_159]; exact hm
    have g_160 := (congrFun eG_158 0).trans ((va_up_ne _ _ (by decide)).trans g_148)
    have g_161 := (congrFun eG_158 1).trans ((va_up_ne _ _ (by decide)).trans g_149)
    have g_162 := (congrFun eG_158 2).trans ((va_up_ne _ _ (by decide)).trans g_150)
    have g_163 := (congrFun eG_158 10).trans ((va_up_ne _ _ (by decide)).trans g_151)
    have g_164 := (congrFun eG_158 20).trans ((va_up_ne _ _ (by decide)).trans g_152)
    have g_165 := (congrFun eG_158 11).trans ((va_up_ne _ _ (by decide)).trans g_153)
    have g_166 := (congrFun eG_158 21).trans ((va_up_ne _ _ (by decide)).trans g_154)
    have g_167 := (congrFun eG_158 12).trans ((va_up_ne _ _ (by decide)).trans g_155)
    have g_168 := (congrFun eG_158 22).trans ((va_up_ne _ _ (by decide)).trans g_156)
    have g_169 : G_158 13 = some (.inr (3, [.int 0, .null, .int 0, .long 0, .int 0, .int 0])) := by rw [eG_158, va_up_self]
    have z_170 : a0 = ad_159 0 := by rw [ead_159, va_up_ne _ _ (by decide)]; exact z_138
    have z_171 : q_3 = ad_159 1 := by rw [ead_159, va_up_ne _ _ (by decide)]; exact z_139
    have z_172 : q_15 = ad_159 2 := by rw [ead_159, va_up_ne _ _ (by decide)]; exact z_140
    have z_173 : q_28 = ad_159 10 := by rw [ead_159, va_up_ne _ _ (by decide)]; exact z_141
    have z_174 : q_43 = ad_159 20 := by rw [ead_159, va_up_ne _ _ (by decide)]; exact z_142
    have z_175 : q_61 = ad_159 11 := by rw [ead_159, va_up_ne _ _ (by decide)]; exact z_143
    have z_176 : q_80 = ad_159 21 := by rw [ead_159, va_up_ne _ _ (by decide)]; exact z_144
    have z_177 : q_104 = ad_159 12 := by rw [ead_159, va_up_ne _ _ (by decide)]; exact z_145
    have z_178 : q_127 = ad_159 22 := by rw [ead_159, va_up_ne _ _ (by decide)]; exact z_146
    have z_179 : q_157 = ad_159 13 := by rw [ead_159, va_up_self]
    refine lv_dup hx hb d_E_init_68 rfl ?_
    refine lv_iload_n hx hb d_E_init_69 rfl (lv_at hl 0 rfl) ?_
    refine m_callv (m_runI (As := [.int 3]) (rest := [.ref q_157, .int 3, .ref q_15]) ⟨hx, hb, hml, hown, hts⟩ (c_So_init l D dA ad_159 G_158 H.size q_157 13 23 3 (by decide) (by rw [eG_158, va_up_ne _ _ (by decide), eG_147, va_up_ne _ _ (by decide), eG_125, va_up_ne _ _ (by decide), va_up_ne _ _ (by decide), eG_105, va_up_ne _ _ (by decide), eG_96, va_up_ne _ _ (by decide), eG_78, va_up_ne _ _ (by decide), va_up_ne _ _ (by decide), eG_62, va_up_ne _ _ (by decide), eG_55, va_up_ne _ _ (by decide), eG_41, va_up_ne _ _ (by decide), va_up_ne _ _ (by decide), eG_29, va_up_ne _ _ (by decide), eG_24, va_up_ne _ _ (by decide), eG_16, va_up_ne _ _ (by decide), eGb, va_up_ne _ _ (by decide), eG_10, va_up_ne _ _ (by decide), eG_4, va_up_ne _ _ (by decide), eG_1, va_up_ne _ _ (by decide)]; exact hn 23 (by decide) (by decide)) z_179 g_169) (cwI 1 hts (gI k_29) rfl rfl rfl (hT _ k_2) (hT _ k_27) (hT _ k_28) rfl (by decide +kernel) ⟨Nat.le_of_ble_eq_true rfl, Nat.le_of_ble_eq_true rfl⟩) hm hA hC rfl hl.1 rfl (Nat.le_of_ble_eq_true rfl) d_E_init_70 ⟨Nat.le_of_ble_eq_true rfl, Nat.le_of_ble_eq_true rfl⟩) hm hA (fun ad_183 G_182 H locs w_181 hm => ?_)
    obtain ⟨q_184, u_185⟩ := w_181
    obtain ⟨ead_183, eG_182⟩ := Prod.mk.inj u_185
    have g_186 := (congrFun eG_182 0).trans ((va_up_ne _ _ (by decide)).trans ((va_up_ne _ _ (by decide)).trans g_160))
    have g_187 := (congrFun eG_182 1).trans ((va_up_ne _ _ (by decide)).trans ((va_up_ne _ _ (by decide)).trans g_161))
    have g_188 := (congrFun eG_182 2).trans ((va_up_ne _ _ (by decide)).trans ((va_up_ne _ _ (by decide)).trans g_162))
    have g_189 := (congrFun eG_182 10).trans ((va_up_ne _ _ (by decide)).trans ((va_up_ne _ _ (by decide)).trans g_163))
    have g_190 := (congrFun eG_182 20).trans ((va_up_ne _ _ (by decide)).trans ((va_up_ne _ _ (by decide)).trans g_164))
    have g_191 := (congrFun eG_182 11).trans ((va_up_ne _ _ (by decide)).trans ((va_up_ne _ _ (by decide)).trans g_165))
    have g_192 := (congrFun eG_182 21).trans ((va_up_ne _ _ (by decide)).trans ((va_up_ne _ _ (by decide)).trans g_166))
    have g_193 := (congrFun eG_182 12).trans ((va_up_ne _ _ (by decide)).trans ((va_up_ne _ _ (by decide)).trans g_167))
    have g_194 := (congrFun eG_182 22).trans ((va_up_ne _ _ (by decide)).trans ((va_up_ne _ _ (by decide)).trans g_168))
    have g_195 : G_182 13 = some (.inr (3, [.int 3, .ref q_184, .int 0, .long 1000000, .int 1, .int 1])) := by rw [eG_182, va_up_self]
    have g_196 : G_182 23 = some (.inl (dA 0, 40, .inl (fun _ => 0))) := by rw [eG_182, va_up_ne _ _ (by decide), va_up_self]
    have z_197 : a0 = ad_183 0 := by rw [ead_183, va_up_ne _ _ (by decide)]; exact z_170
    have z_198 : q_3 = ad_183 1 := by rw [ead_183, va_up_ne _ _ (by decide)]; exact z_171
    have z_199 : q_15 = ad_183 2 := by rw [ead_183, va_up_ne _ _ (by decide)]; exact z_172
    have z_200 : q_28 = ad_183 10 := by rw [ead_183, va_up_ne _ _ (by decide)]; exact z_173
    have z_201 : q_43 = ad_183 20 := by rw [ead_183, va_up_ne _ _ (by decide)]; exact z_174
    have z_202 : q_61 = ad_183 11 := by rw [ead_183, va_up_ne _ _ (by decide)]; exact z_175
    have z_203 : q_80 = ad_183 21 := by rw [ead_183, va_up_ne _ _ (by decide)]; exact z_176
    have z_204 : q_104 = ad_183 12 := by rw [ead_183, va_up_ne _ _ (by decide)]; exact z_177
    have z_205 : q_127 = ad_183 22 := by rw [ead_183, va_up_ne _ _ (by decide)]; exact z_178
    have z_206 : q_157 = ad_183 13 := by rw [ead_183, va_up_ne _ _ (by decide)]; exact z_179
    have z_207 : q_184 = ad_183 23 := by rw [ead_183, va_up_self]
    refine m_aast (r' := (R_So, T_So, 6)) hx hb hC.1 hm 2 z_199 3 13 3 z_206 g_188 rfl g_195 rfl (vpc _ _ (by decide)) d_E_init_73 (fun H locs hm => ?_)
    obtain ⟨G_208, eG_208⟩ : ∃ z : mG, z = va_up G_182 2 (some (.inl ((dA 3), 4, .inr (.inr (.inr (.inr (va_up (va_up (va_up (va_up (fun _ => none) 0 (some q_28)) 1 (some q_61)) 2 (some q_104)) 3 (some q_157)))))))) := ⟨_, rfl⟩
    have hm : mS D mCl (mA ad G s.heap.size) s.heap ad_183 G_208 H locs := by rw [eG_208]; exact hm
    have g_209 := (congrFun eG_208 0).trans ((va_up_ne _ _ (by decide)).trans g_186)
    have g_210 := (congrFun eG_208 1).trans ((va_up_ne _ _ (by decide)).trans g_187)
    have g_211 : G_208 2 = some (.inl ((dA 3), 4, .inr (.inr (.inr (.inr (va_up (va_up (va_up (va_up (fun _ => none) 0 (some q_28)) 1 (some q_61)) 2 (some q_104)) 3 (some q_157))))))) := by rw [eG_208, va_up_self]
    have g_212 := (congrFun eG_208 10).trans ((va_up_ne _ _ (by decide)).trans g_189)
    have g_213 := (congrFun eG_208 20).trans ((va_up_ne _ _ (by decide)).trans g_190)
    have g_214 := (congrFun eG_208 11).trans ((va_up_ne _ _ (by decide)).trans g_191)
    have g_215 := (congrFun eG_208 21).trans ((va_up_ne _ _ (by decide)).trans g_192)
    have g_216 := (congrFun eG_208 12).trans ((va_up_ne _ _ (by decide)).trans g_193)
    have g_217 := (congrFun eG_208 22).trans ((va_up_ne _ _ (by decide)).trans g_194)
    have g_218 := (congrFun eG_208 13).trans ((va_up_ne _ _ (by decide)).trans g_195)
    have g_219 := (congrFun eG_208 23).trans ((va_up_ne _ _ (by decide)).trans g_196)
    refine lv_iinc (v := 4) (lv' := [(2, .int 4), (0, .ref a0)]) hx hb d_E_init_74 hl (k := 0) rfl (by decide) (by decide) rfl (fun ls hl => ?_)
    refine lv_goto (tgt := 51) hx hb d_E_init_77 (by decide) ?_
    refine lv_iload_n hx hb d_E_init_51 rfl (lv_at hl 0 rfl) ?_
    refine lv_aload_n hx hb d_E_init_52 rfl (lv_at hl 1 rfl) ?_
    refine m_get (v := .ref q_15) (C := R_E) (T := T_E) (N := 8) hx hb hT in_E hown hC.1 hm 0 z_197 g_209 rfl 2 (by decide) (hT _ k_89) (fun _ h9 => h9) rfl d_E_init_53 ?_
    refine m_alen (v := 4) hx hb hC.1 hm 2 z_199 3 g_211 rfl rfl d_E_init_56 ?_
    refine lv_icmp_ge (tgt := 80) hx hb d_E_init_57 (by decide) (fun _ => ?_) (fun c9 => absurd (by decide) c9)
    refine lv_aload_n hx hb d_E_init_80 rfl (lv_at hl 1 rfl) ?_
    refine lv_bipush (v := 12) hx hb d_E_init_81 (by decide) ?_
    refine m_newq (N' := 12) (cA := (dA 4)) hx hb hown (hT _ k_60) (va_AO.use hC.2.2.2.1.2.1) hm hA 3 (by rw [eG_208, va_up_ne _ _ (by decide), eG_182, va_up_ne _ _ (by decide), va_up_ne _ _ (by decide), eG_158, va_up_ne _ _ (by decide), eG_147, va_up_ne _ _ (by decide), eG_125, va_up_ne _ _ (by decide), va_up_ne _ _ (by decide), eG_105, va_up_ne _ _ (by decide), eG_96, va_up_ne _ _ (by decide), eG_78, va_up_ne _ _ (by decide), va_up_ne _ _ (by decide), eG_62, va_up_ne _ _ (by decide), eG_55, va_up_ne _ _ (by decide), eG_41, va_up_ne _ _ (by decide), va_up_ne _ _ (by decide), eG_29, va_up_ne _ _ (by decide), eG_24, va_up_ne _ _ (by decide), eG_16, va_up_ne _ _ (by decide), eGb, va_up_ne _ _ (by decide), eG_10, va_up_ne _ _ (by decide), eG_4, va_up_ne _ _ (by decide), eG_1, va_up_ne _ _ (by decide)]; exact hn 3 (by decide) (by decide)) (mRA (hC.1.2 4 _ rfl).2) (by decide) (by decide) (by decide) (Nat.le_of_ble_eq_true rfl) (Nat.le_of_ble_eq_true rfl) d_E_init_83 (fun q_220 H hm => ?_)
    obtain ⟨G_221, eG_221⟩ : ∃ z : mG, z = va_up G_208 3 (some (.inl ((dA 4), 12, .inr (.inr (.inr (.inr (fun _ => none))))))) := ⟨_, rfl⟩
    obtain ⟨ad_222, ead_222⟩ : ∃ z : Nat → Nat, z = va_up ad_183 3 q_220 := ⟨_, rfl⟩
    have hm : mS D mCl (mA ad G s.heap.size) s.heap ad_222 G_221 H locs := by rw [eG_221, ead_222]; exact hm
    have g_223 := (congrFun eG_221 0).trans ((va_up_ne _ _ (by decide)).trans g_209)
    have g_224 := (congrFun eG_221 1).trans ((va_up_ne _ _ (by decide)).trans g_210)
    have g_225 := (congrFun eG_221 2).trans ((va_up_ne _ _ (by decide)).trans g_211)
    have g_226 := (congrFun eG_221 10).trans ((va_up_ne _ _ (by decide)).trans g_212)
    have g_227 := (congrFun eG_221 20).trans ((va_up_ne _ _ (by decide)).trans g_213)
    have g_228 := (congrFun eG_221 11).trans ((va_up_ne _ _ (by decide)).trans g_214)
    have g_229 := (congrFun eG_221 21).trans ((va_up_ne _ _ (by decide)).trans g_215)
    have g_230 := (congrFun eG_221 12).trans ((va_up_ne _ _ (by decide)).trans g_216)
    have g_231 := (congrFun eG_221 22).trans ((va_up_ne _ _ (by decide)).trans g_217)
    have g_232 := (congrFun eG_221 13).trans ((va_up_ne _ _ (by decide)).trans g_218)
    have g_233 := (congrFun eG_221 23).trans ((va_up_ne _ _ (by decide)).trans g_219)
    have g_234 : G_221 3 = some (.inl ((dA 4), 12, .inr (.inr (.inr (.inr (fun _ => none)))))) := by rw [eG_221, va_up_self]
    have z_235 : a0 = ad_222 0 := by rw [ead_222, va_up_ne _ _ (by decide)]; exact z_197
    have z_236 : q_3 = ad_222 1 := by rw [ead_222, va_up_ne _ _ (by decide)]; exact z_198
    have z_237 : q_15 = ad_222 2 := by rw [ead_222, va_up_ne _ _ (by decide)]; exact z_199
    have z_238 : q_28 = ad_222 10 := by rw [ead_222, va_up_ne _ _ (by decide)]; exact z_200
    have z_239 : q_43 = ad_222 20 := by rw [ead_222, va_up_ne _ _ (by decide)]; exact z_201
    have z_240 : q_61 = ad_222 11 := by rw [ead_222, va_up_ne _ _ (by decide)]; exact z_202
    have z_241 : q_80 = ad_222 21 := by rw [ead_222, va_up_ne _ _ (by decide)]; exact z_203
    have z_242 : q_104 = ad_222 12 := by rw [ead_222, va_up_ne _ _ (by decide)]; exact z_204
    have z_243 : q_127 = ad_222 22 := by rw [ead_222, va_up_ne _ _ (by decide)]; exact z_205
    have z_244 : q_157 = ad_222 13 := by rw [ead_222, va_up_ne _ _ (by decide)]; exact z_206
    have z_245 : q_184 = ad_222 23 := by rw [ead_222, va_up_ne _ _ (by decide)]; exact z_207
    have z_246 : q_220 = ad_222 3 := by rw [ead_222, va_up_self]
    refine m_putF (v := .ref q_220) (ty := (.array (.object "EdgeWear$Tool"))) (C := R_E) (T := T_E) (N := 8) hx hb hT in_E t_E tok_E nm_E hown hC.1 hm 0 z_235 g_223 rfl 3 (by decide) (hT _ k_90) (fun _ h9 => h9) rfl hin rfl (by decide +kernel) rfl rfl (Nat.le_of_ble_eq_true rfl) d_E_init_86 (fun H locs hm => ?_)
    obtain ⟨G_247, eG_247⟩ : ∃ z : mG, z = va_up G_221 0 (some (.inr (5, [.int p0, .ref q_3, .ref q_15, .ref q_220, .null, .null, .int 0, .int 0]))) := ⟨_, rfl⟩
    have hm : mS D mCl (mA ad G s.heap.size) s.heap ad_222 G_247 H locs := by rw [eG_247]; exact hm
    have g_248 : G_247 0 = some (.inr (5, [.int p0, .ref q_3, .ref q_15, .ref q_220, .null, .null, .int 0, .int 0])) := by rw [eG_247, va_up_self]
    have g_249 := (congrFun eG_247 1).trans ((va_up_ne _ _ (by decide)).trans g_224)
    have g_250 := (congrFun eG_247 2).trans ((va_up_ne _ _ (by decide)).trans g_225)
    have g_251 := (congrFun eG_247 10).trans ((va_up_ne _ _ (by decide)).trans g_226)
    have g_252 := (congrFun eG_247 20).trans ((va_up_ne _ _ (by decide)).trans g_227)
    have g_253 := (congrFun eG_247 11).trans ((va_up_ne _ _ (by decide)).trans g_228)
    have g_254 := (congrFun eG_247 21).trans ((va_up_ne _ _ (by decide)).trans g_229)
    have g_255 := (congrFun eG_247 12).trans ((va_up_ne _ _ (by decide)).trans g_230)
    have g_256 := (congrFun eG_247 22).trans ((va_up_ne _ _ (by decide)).trans g_231)
    have g_257 := (congrFun eG_247 13).trans ((va_up_ne _ _ (by decide)).trans g_232)
    have g_258 := (congrFun eG_247 23).trans ((va_up_ne _ _ (by decide)).trans g_233)
    have g_259 := (congrFun eG_247 3).trans ((va_up_ne _ _ (by decide)).trans g_234)
    refine lv_aload_n hx hb d_E_init_89 rfl (lv_at hl 1 rfl) ?_
    refine lv_bipush (v := 16) hx hb d_E_init_90 (by decide) ?_
    refine m_newq (N' := 16) (cA := (dA 5)) hx hb hown (hT _ k_62) (va_AO.use hC.2.2.2.1.2.2) hm hA 4 (by rw [eG_247, va_up_ne _ _ (by decide), eG_221, va_up_ne _ _ (by decide), eG_208, va_up_ne _ _ (by decide), eG_182, va_up_ne _ _ (by decide), va_up_ne _ _ (by decide), eG_158, va_up_ne _ _ (by decide), eG_147, va_up_ne _ _ (by decide), eG_125, va_up_ne _ _ (by decide), va_up_ne _ _ (by decide), eG_105, va_up_ne _ _ (by decide), eG_96, va_up_ne _ _ (by decide), eG_78, va_up_ne _ _ (by decide), va_up_ne _ _ (by decide), eG_62, va_up_ne _ _ (by decide), eG_55, va_up_ne _ _ (by decide), eG_41, va_up_ne _ _ (by decide), va_up_ne _ _ (by decide), eG_29, va_up_ne _ _ (by decide), eG_24, va_up_ne _ _ (by decide), eG_16, va_up_ne _ _ (by decide), eGb, va_up_ne _ _ (by decide), eG_10, va_up_ne _ _ (by decide), eG_4, va_up_ne _ _ (by decide), eG_1, va_up_ne _ _ (by decide)]; exact hn 4 (by decide) (by decide)) (mRA (hC.1.2 5 _ rfl).2) (by decide) (by decide) (by decide) (Nat.le_of_ble_eq_true rfl) (Nat.le_of_ble_eq_true rfl) d_E_init_92 (fun q_260 H hm => ?_)
    obtain ⟨G_261, eG_261⟩ : ∃ z : mG, z = va_up G_247 4 (some (.inl ((dA 5), 16, .inr (.inr (.inr (.inr (fun _ => none))))))) := ⟨_, rfl⟩
    obtain ⟨ad_262, ead_262⟩ : ∃ z : Nat → Nat, z = va_up ad_222 4 q_260 := ⟨_, rfl⟩
    have hm : mS D mCl (mA ad G s.heap.size) s.heap ad_262 G_261 H locs := by rw [eG_261, ead_262]; exact hm
    have g_263 := (congrFun eG_261 0).trans ((va_up_ne _ _ (by decide)).trans g_248)
    have g_264 := (congrFun eG_261 1).trans ((va_up_ne _ _ (by decide)).trans g_249)
    have g_265 := (congrFun eG_261 2).trans ((va_up_ne _ _ (by decide)).trans g_250)
    have g_266 := (congrFun eG_261 10).trans ((va_up_ne _ _ (by decide)).trans g_251)
    have g_267 := (congrFun eG_261 20).trans ((va_up_ne _ _ (by decide)).trans g_252)
    have g_268 := (congrFun eG_261 11).trans ((va_up_ne _ _ (by decide)).trans g_253)
    have g_269 := (congrFun eG_261 21).trans ((va_up_ne _ _ (by decide)).trans g_254)
    have g_270 := (congrFun eG_261 12).trans ((va_up_ne _ _ (by decide)).trans g_255)
    have g_271 := (congrFun eG_261 22).trans ((va_up_ne _ _ (by decide)).trans g_256)
    have g_272 := (congrFun eG_261 13).trans ((va_up_ne _ _ (by decide)).trans g_257)
    have g_273 := (congrFun eG_261 23).trans ((va_up_ne _ _ (by decide)).trans g_258)
    have g_274 := (congrFun eG_261 3).trans ((va_up_ne _ _ (by decide)).trans g_259)
    have g_275 : G_261 4 = some (.inl ((dA 5), 16, .inr (.inr (.inr (.inr (fun _ => none)))))) := by rw [eG_261, va_up_self]
    have z_276 : a0 = ad_262 0 := by rw [ead_262, va_up_ne _ _ (by decide)]; exact z_235
    have z_277 : q_3 = ad_262 1 := by rw [ead_262, va_up_ne _ _ (by decide)]; exact z_236
    have z_278 : q_15 = ad_262 2 := by rw [ead_262, va_up_ne _ _ (by decide)]; exact z_237
    have z_279 : q_28 = ad_262 10 := by rw [ead_262, va_up_ne _ _ (by decide)]; exact z_238
    have z_280 : q_43 = ad_262 20 := by rw [ead_262, va_up_ne _ _ (by decide)]; exact z_239
    have z_281 : q_61 = ad_262 11 := by rw [ead_262, va_up_ne _ _ (by decide)]; exact z_240
    have z_282 : q_80 = ad_262 21 := by rw [ead_262, va_up_ne _ _ (by decide)]; exact z_241
    have z_283 : q_104 = ad_262 12 := by rw [ead_262, va_up_ne _ _ (by decide)]; exact z_242
    have z_284 : q_127 = ad_262 22 := by rw [ead_262, va_up_ne _ _ (by decide)]; exact z_243
    have z_285 : q_157 = ad_262 13 := by rw [ead_262, va_up_ne _ _ (by decide)]; exact z_244
    have z_286 : q_184 = ad_262 23 := by rw [ead_262, va_up_ne _ _ (by decide)]; exact z_245
    have z_287 : q_220 = ad_262 3 := by rw [ead_262, va_up_ne _ _ (by decide)]; exact z_246
    have z_288 : q_260 = ad_262 4 := by rw [ead_262, va_up_self]
    refine m_putF (v := .ref q_260) (ty := (.array (.object "EdgeWear$Order"))) (C := R_E) (T := T_E) (N := 8) hx hb hT in_E t_E tok_E nm_E hown hC.1 hm 0 z_276 g_263 rfl 4 (by decide) (hT _ k_91) (fun _ h9 => h9) rfl hin rfl (by decide +kernel) rfl rfl (Nat.le_of_ble_eq_true rfl) d_E_init_95 (fun H locs hm => ?_)
    obtain ⟨G_289, eG_289⟩ : ∃ z : mG, z = va_up G_261 0 (some (.inr (5, [.int p0, .ref q_3, .ref q_15, .ref q_220, .ref q_260, .null, .int 0, .int 0]))) := ⟨_, rfl⟩
    have hm : mS D mCl (mA ad G s.heap.size) s.heap ad_262 G_289 H locs := by rw [eG_289]; exact hm
    have g_290 : G_289 0 = some (.inr (5, [.int p0, .ref q_3, .ref q_15, .ref q_220, .ref q_260, .null, .int 0, .int 0])) := by rw [eG_289, va_up_self]
    have g_291 := (congrFun eG_289 1).trans ((va_up_ne _ _ (by decide)).trans g_264)
    have g_292 := (congrFun eG_289 2).trans ((va_up_ne _ _ (by decide)).trans g_265)
    have g_293 := (congrFun eG_289 10).trans ((va_up_ne _ _ (by decide)).trans g_266)
    have g_294 := (congrFun eG_289 20).trans ((va_up_ne _ _ (by decide)).trans g_267)
    have g_295 := (congrFun eG_289 11).trans ((va_up_ne _ _ (by decide)).trans g_268)
    have g_296 := (congrFun eG_289 21).trans ((va_up_ne _ _ (by decide)).trans g_269)
    have g_297 := (congrFun eG_289 12).trans ((va_up_ne _ _ (by decide)).trans g_270)
    have g_298 := (congrFun eG_289 22).trans ((va_up_ne _ _ (by decide)).trans g_271)
    have g_299 := (congrFun eG_289 13).trans ((va_up_ne _ _ (by decide)).trans g_272)
    have g_300 := (congrFun eG_289 23).trans ((va_up_ne _ _ (by decide)).trans g_273)
    have g_301 := (congrFun eG_289 3).trans ((va_up_ne _ _ (by decide)).trans g_274)
    have g_302 := (congrFun eG_289 4).trans ((va_up_ne _ _ (by decide)).trans g_275)
    refine lv_aload_n hx hb d_E_init_98 rfl (lv_at hl 1 rfl) ?_
    refine m_new (ci := 2) (fs := [.int 0, .int 0, .int 0, .int 0]) (C := R_Ru) (T := T_Ru) (N := 4) hx hb hT in_Ru t_Ru tok_Ru hown (hT _ k_64) (hT _ k_65) (hT _ k_3) hC.1 hm hA 5 (by rw [eG_289, va_up_ne _ _ (by decide), eG_261, va_up_ne _ _ (by decide), eG_247, va_up_ne _ _ (by decide), eG_221, va_up_ne _ _ (by decide), eG_208, va_up_ne _ _ (by decide), eG_182, va_up_ne _ _ (by decide), va_up_ne _ _ (by decide), eG_158, va_up_ne _ _ (by decide), eG_147, va_up_ne _ _ (by decide), eG_125, va_up_ne _ _ (by decide), va_up_ne _ _ (by decide), eG_105, va_up_ne _ _ (by decide), eG_96, va_up_ne _ _ (by decide), eG_78, va_up_ne _ _ (by decide), va_up_ne _ _ (by decide), eG_62, va_up_ne _ _ (by decide), eG_55, va_up_ne _ _ (by decide), eG_41, va_up_ne _ _ (by decide), va_up_ne _ _ (by decide), eG_29, va_up_ne _ _ (by decide), eG_24, va_up_ne _ _ (by decide), eG_16, va_up_ne _ _ (by decide), eGb, va_up_ne _ _ (by decide), eG_10, va_up_ne _ _ (by decide), eG_4, va_up_ne _ _ (by decide), eG_1, va_up_ne _ _ (by decide)]; exact hn 5 (by decide) (by decide)) rfl (fun j hj => by rcases (show j = 0 ∨ j = 1 ∨ j = 2 ∨ j = 3 by omega) with rfl | rfl | rfl | rfl <;> rfl) (Nat.le_of_ble_eq_true rfl) (Nat.le_of_ble_eq_true rfl) d_E_init_99 (fun q_303 H hm => ?_)
    obtain ⟨G_304, eG_304⟩ : ∃ z : mG, z = va_up G_289 5 (some (.inr (2, [.int 0, .int 0, .int 0, .int 0]))) := ⟨_, rfl⟩
    obtain ⟨ad_305, ead_305⟩ : ∃ z : Nat → Nat, z = va_up ad_262 5 q_303 := ⟨_, rfl⟩
    have hm : mS D mCl (mA ad G s.heap.size) s.heap ad_305 G_304 H locs := by rw [eG_304, ead_305]; exact hm
    have g_306 := (congrFun eG_304 0).trans ((va_up_ne _ _ (by decide)).trans g_290)
    have g_307 := (congrFun eG_304 1).trans ((va_up_ne _ _ (by decide)).trans g_291)
    have g_308 := (congrFun eG_304 2).trans ((va_up_ne _ _ (by decide)).trans g_292)
    have g_309 := (congrFun eG_304 10).trans ((va_up_ne _ _ (by decide)).trans g_293)
    have g_310 := (congrFun eG_304 20).trans ((va_up_ne _ _ (by decide)).trans g_294)
    have g_311 := (congrFun eG_304 11).trans ((va_up_ne _ _ (by decide)).trans g_295)
    have g_312 := (congrFun eG_304 21).trans ((va_up_ne _ _ (by decide)).trans g_296)
    have g_313 := (congrFun eG_304 12).trans ((va_up_ne _ _ (by decide)).trans g_297)
    have g_314 := (congrFun eG_304 22).trans ((va_up_ne _ _ (by decide)).trans g_298)
    have g_315 := (congrFun eG_304 13).trans ((va_up_ne _ _ (by decide)).trans g_299)
    have g_316 := (congrFun eG_304 23).trans ((va_up_ne _ _ (by decide)).trans g_300)
    have g_317 := (congrFun eG_304 3).trans ((va_up_ne _ _ (by decide)).trans g_301)
    have g_318 := (congrFun eG_304 4).trans ((va_up_ne _ _ (by decide)).trans g_302)
    have g_319 : G_304 5 = some (.inr (2, [.int 0, .int 0, .int 0, .int 0])) := by rw [eG_304, va_up_self]
    have z_320 : a0 = ad_305 0 := by rw [ead_305, va_up_ne _ _ (by decide)]; exact z_276
    have z_321 : q_3 = ad_305 1 := by rw [ead_305, va_up_ne _ _ (by decide)]; exact z_277
    have z_322 : q_15 = ad_305 2 := by rw [ead_305, va_up_ne _ _ (by decide)]; exact z_278
    have z_323 : q_28 = ad_305 10 := by rw [ead_305, va_up_ne _ _ (by decide)]; exact z_279
    have z_324 : q_43 = ad_305 20 := by rw [ead_305, va_up_ne _ _ (by decide)]; exact z_280
    have z_325 : q_61 = ad_305 11 := by rw [ead_305, va_up_ne _ _ (by decide)]; exact z_281
    have z_326 : q_80 = ad_305 21 := by rw [ead_305, va_up_ne _ _ (by decide)]; exact z_282
    have z_327 : q_104 = ad_305 12 := by rw [ead_305, va_up_ne _ _ (by decide)]; exact z_283
    have z_328 : q_127 = ad_305 22 := by rw [ead_305, va_up_ne _ _ (by decide)]; exact z_284
    have z_329 : q_157 = ad_305 13 := by rw [ead_305, va_up_ne _ _ (by decide)]; exact z_285
    have z_330 : q_184 = ad_305 23 := by rw [ead_305, va_up_ne _ _ (by decide)]; exact z_286
    have z_331 : q_220 = ad_305 3 := by rw [ead_305, va_up_ne _ _ (by decide)]; exact z_287
    have z_332 : q_260 = ad_305 4 := by rw [ead_305, va_up_ne _ _ (by decide)]; exact z_288
    have z_333 : q_303 = ad_305 5 := by rw [ead_305, va_up_self]
    refine lv_dup hx hb d_E_init_102 rfl ?_
    refine m_callv (m_runI (As := []) (rest := [.ref q_303, .ref a0]) ⟨hx, hb, hml, hown, hts⟩ (c_Ru_init l D dA ad_305 G_304 H.size q_303 5 z_333 g_319) (cwI 0 hts (gI k_68) rfl rfl rfl (hT _ k_3) (hT _ k_66) (hT _ k_67) rfl (by decide +kernel) ⟨Nat.le_of_ble_eq_true rfl, Nat.le_of_ble_eq_true rfl⟩) hm hA hC rfl hl.1 rfl (Nat.le_of_ble_eq_true rfl) d_E_init_103 ⟨Nat.le_of_ble_eq_true rfl, Nat.le_of_ble_eq_true rfl⟩) hm hA (fun ad_337 G_336 H locs w_335 hm => ?_)
    obtain ⟨ea9, eG_336⟩ := Prod.mk.inj w_335
    rw [ea9] at hm
    have g_338 := (congrFun eG_336 0).trans ((va_up_ne _ _ (by decide)).trans g_306)
    have g_339 := (congrFun eG_336 1).trans ((va_up_ne _ _ (by decide)).trans g_307)
    have g_340 := (congrFun eG_336 2).trans ((va_up_ne _ _ (by decide)).trans g_308)
    have g_341 := (congrFun eG_336 10).trans ((va_up_ne _ _ (by decide)).trans g_309)
    have g_342 := (congrFun eG_336 20).trans ((va_up_ne _ _ (by decide)).trans g_310)
    have g_343 := (congrFun eG_336 11).trans ((va_up_ne _ _ (by decide)).trans g_311)
    have g_344 := (congrFun eG_336 21).trans ((va_up_ne _ _ (by decide)).trans g_312)
    have g_345 := (congrFun eG_336 12).trans ((va_up_ne _ _ (by decide)).trans g_313)
    have g_346 := (congrFun eG_336 22).trans ((va_up_ne _ _ (by decide)).trans g_314)
    have g_347 := (congrFun eG_336 13).trans ((va_up_ne _ _ (by decide)).trans g_315)
    have g_348 := (congrFun eG_336 23).trans ((va_up_ne _ _ (by decide)).trans g_316)
    have g_349 := (congrFun eG_336 3).trans ((va_up_ne _ _ (by decide)).trans g_317)
    have g_350 := (congrFun eG_336 4).trans ((va_up_ne _ _ (by decide)).trans g_318)
    have g_351 : G_336 5 = some (.inr (2, [.int 1000, .int 4, .int 500, .int 600])) := by rw [eG_336, va_up_self]
    refine m_putF (v := .ref q_303) (ty := (.object "EdgeWear$Rules")) (C := R_E) (T := T_E) (N := 8) hx hb hT in_E t_E tok_E nm_E hown hC.1 hm 0 z_320 g_338 rfl 5 (by decide) (hT _ k_92) (fun _ h9 => h9) rfl hin rfl (by decide +kernel) rfl rfl (Nat.le_of_ble_eq_true rfl) d_E_init_106 (fun H locs hm => ?_)
    obtain ⟨G_352, eG_352⟩ : ∃ z : mG, z = va_up G_336 0 (some (.inr (5, [.int p0, .ref q_3, .ref q_15, .ref q_220, .ref q_260, .ref q_303, .int 0, .int 0]))) := ⟨_, rfl⟩
    have hm : mS D mCl (mA ad G s.heap.size) s.heap ad_305 G_352 H locs := by rw [eG_352]; exact hm
    have g_353 : G_352 0 = some (.inr (5, [.int p0, .ref q_3, .ref q_15, .ref q_220, .ref q_260, .ref q_303, .int 0, .int 0])) := by rw [eG_352, va_up_self]
    have g_354 := (congrFun eG_352 1).trans ((va_up_ne _ _ (by decide)).trans g_339)
    have g_355 := (congrFun eG_352 2).trans ((va_up_ne _ _ (by decide)).trans g_340)
    have g_356 := (congrFun eG_352 10).trans ((va_up_ne _ _ (by decide)).trans g_341)
    have g_357 := (congrFun eG_352 20).trans ((va_up_ne _ _ (by decide)).trans g_342)
    have g_358 := (congrFun eG_352 11).trans ((va_up_ne _ _ (by decide)).trans g_343)
    have g_359 := (congrFun eG_352 21).trans ((va_up_ne _ _ (by decide)).trans g_344)
    have g_360 := (congrFun eG_352 12).trans ((va_up_ne _ _ (by decide)).trans g_345)
    have g_361 := (congrFun eG_352 22).trans ((va_up_ne _ _ (by decide)).trans g_346)
    have g_362 := (congrFun eG_352 13).trans ((va_up_ne _ _ (by decide)).trans g_347)
    have g_363 := (congrFun eG_352 23).trans ((va_up_ne _ _ (by decide)).trans g_348)
    have g_364 := (congrFun eG_352 3).trans ((va_up_ne _ _ (by decide)).trans g_349)
    have g_365 := (congrFun eG_352 4).trans ((va_up_ne _ _ (by decide)).trans g_350)
    have g_366 := (congrFun eG_352 5).trans ((va_up_ne _ _ (by decide)).trans g_351)
    exact m_vret hx hb hr hm (by
      have hoth : ∀ x, x ≠ 0 → x ≠ 1 → x ≠ 2 → x ≠ 3 → x ≠ 4 → x ≠ 5 → x ≠ 10 → x ≠ 11 → x ≠ 12 → x ≠ 13 → x ≠ 20 → x ≠ 21 → x ≠ 22 → x ≠ 23 → G_352 x = G x := by
        intro x n0 n1 n2 n3 n4 n5 n10 n11 n12 n13 n20 n21 n22 n23
        rw [eG_352, va_up_ne _ _ n0, eG_336, va_up_ne _ _ n5, eG_304, va_up_ne _ _ n5, eG_289, va_up_ne _ _ n0, eG_261, va_up_ne _ _ n4, eG_247, va_up_ne _ _ n0, eG_221, va_up_ne _ _ n3, eG_208, va_up_ne _ _ n2, eG_182, va_up_ne _ _ n13, va_up_ne _ _ n23, eG_158, va_up_ne _ _ n13, eG_147, va_up_ne _ _ n2, eG_125, va_up_ne _ _ n12, va_up_ne _ _ n22, eG_105, va_up_ne _ _ n12, eG_96, va_up_ne _ _ n2, eG_78, va_up_ne _ _ n11, va_up_ne _ _ n21, eG_62, va_up_ne _ _ n11, eG_55, va_up_ne _ _ n2, eG_41, va_up_ne _ _ n10, va_up_ne _ _ n20, eG_29, va_up_ne _ _ n10, eG_24, va_up_ne _ _ n0, eG_16, va_up_ne _ _ n2, eGb, va_up_ne _ _ n1, eG_10, va_up_ne _ _ n0, eG_4, va_up_ne _ _ n1, eG_1, va_up_ne _ _ n0]
      have hoa : ∀ x, 1000 ≤ x → ad_305 x = ad x := by
        intro x hx9
        rw [ead_305, va_up_ne _ _ (by omega), ead_262, va_up_ne _ _ (by omega), ead_222, va_up_ne _ _ (by omega), ead_183, va_up_ne _ _ (by omega), ead_159, va_up_ne _ _ (by omega), ead_126, va_up_ne _ _ (by omega), ead_106, va_up_ne _ _ (by omega), ead_79, va_up_ne _ _ (by omega), ead_63, va_up_ne _ _ (by omega), ead_42, va_up_ne _ _ (by omega), ead_30, va_up_ne _ _ (by omega), ead_17, va_up_ne _ _ (by omega), ead_5, va_up_ne _ _ (by omega)]
      have h0a : ad_305 0 = ad 0 := z_320.symm.trans hz
      have f0 := g_353
      have f1 := g_354
      have f2 := g_355
      have f3 := g_364
      have f4 := g_365
      have f5 := g_366
      have f10 := g_356
      have f11 := g_358
      have f12 := g_360
      have f13 := g_362
      have f20 := g_357
      have f21 := g_359
      have f22 := g_361
      have f23 := g_363
      have y1 := z_321
      have y2 := z_322
      have y3 := z_331
      have y4 := z_332
      have y5 := z_333
      have y10 := z_323
      have y11 := z_325
      have y12 := z_327
      have y13 := z_329
      have y20 := z_324
      have y21 := z_326
      have y22 := z_328
      have y23 := z_330
      refine ⟨ad_305, hoa, h0a, ?_⟩
      refine Prod.ext rfl ?_
      funext x
      show G_352 x = gE dA ad_305 (eI0 p0) eJ0 eF0 (fun _ => 0) 0 0 G x
      by_cases n0 : x = 0
      · rw [n0, f0]
        rw [y1]
        rw [y2]
        rw [y3]
        rw [y4]
        rw [y5]
        rfl
      by_cases n1 : x = 1
      · rw [n1, f1, hge]
        refine Eq.trans ?_ (gE_c1).symm
        rfl
      by_cases n2 : x = 2
      · rw [n2, f2]
        rw [y10]
        rw [y11]
        rw [y12]
        rw [y13]
        refine Eq.trans ?_ (gE_c2).symm
        congr 8
        funext i
        by_cases z3 : i = 3
        · rw [z3]; rfl
        · by_cases z2 : i = 2
          · rw [z2]; rfl
          · by_cases z1 : i = 1
            · rw [z1]; rfl
            · by_cases z0 : i = 0
              · rw [z0]; rfl
              · rw [va_up_ne _ _ z3, va_up_ne _ _ z2, va_up_ne _ _ z1, va_up_ne _ _ z0, if_neg (by omega)]
      by_cases n3 : x = 3
      · rw [n3, f3]
        refine Eq.trans ?_ (gE_c3).symm
        congr 8
      by_cases n4 : x = 4
      · rw [n4, f4]
        refine Eq.trans ?_ (gE_c4).symm
        congr 8
      by_cases n5 : x = 5
      · rw [n5, f5]
        rfl
      by_cases n10 : x = 10
      · rw [n10, f10]
        rw [y20]
        rfl
      by_cases n11 : x = 11
      · rw [n11, f11]
        rw [y21]
        rfl
      by_cases n12 : x = 12
      · rw [n12, f12]
        rw [y22]
        rfl
      by_cases n13 : x = 13
      · rw [n13, f13]
        rw [y23]
        rfl
      by_cases n20 : x = 20
      · rw [n20, f20]
        rfl
      by_cases n21 : x = 21
      · rw [n21, f21]
        rfl
      by_cases n22 : x = 22
      · rw [n22, f22]
        rfl
      by_cases n23 : x = 23
      · rw [n23, f23]
        rfl
      rw [hoth x n0 n1 n2 n3 n4 n5 n10 n11 n12 n13 n20 n21 n22 n23]
      by_cases hbig : 1000 ≤ x
      · rw [gE_out hbig]
      · rw [hn x (by omega) (by omega)]
        unfold gE
        rw [if_pos (show x < 1000 by omega), if_neg n0, if_neg n1, if_neg n2, if_neg n3, if_neg n4, if_neg n5]
        by_cases w1 : x < 10
        · rw [if_pos w1]
        rw [if_neg w1, if_neg (show ¬ x < 14 by omega)]
        by_cases w2 : x < 20
        · rw [if_pos w2]
        rw [if_neg w2, if_neg (show ¬ x < 24 by omega)]
        by_cases w3 : x < 100
        · rw [if_pos w3]
        rw [if_neg w3, if_neg (show ¬ x < 100 + 0 by omega)]
        by_cases w4 : x < 200
        · rw [if_pos w4]
        rw [if_neg w4, if_neg (show ¬ x < 200 + 0 by omega)]
        by_cases w5 : x < 300
        · rw [if_pos w5]
        rw [if_neg w5, if_neg (show ¬ x < 300 + 0 by omega)]
        by_cases w6 : x < 400
        · rw [if_pos w6]
        rw [if_neg w6, if_neg (show ¬ x < 400 + 0 by omega)]) d_E_init_109 hlocks
  · have hj16 : j < 16 := (nI_ltI (b := 16) (by omega) (by decide)).mp (Int32.not_le.mp c_25)
    refine lv_aload_n hx hb d_E_init_28 rfl (lv_at hl 0 rfl) ?_
    refine m_get (v := .ref q_3) (C := R_E) (T := T_E) (N := 8) hx hb hT in_E hown hC.1 hm 0 z_8 g_13 rfl 1 (by decide) (hT _ k_88) (fun _ h9 => h9) rfl d_E_init_29 ?_
    refine lv_iload_n hx hb d_E_init_32 rfl (lv_at hl 1 rfl) ?_
    refine lv_iconst (v := 1) hx hb d_E_init_33 (by decide) ?_
    refine m_iast hx hb hC.1 hm 1 z_9 0 g_14 rfl (vp_in_nI (by omega) (by decide)) d_E_init_34 (fun H locs hm => ?_)
    rw [nI_clamp (show j < 2 ^ 31 by omega)] at hm
    obtain ⟨G_367, eG_367⟩ : ∃ z : mG, z = va_up Gb 1 (some (.inl ((dA 0), 16, .inl (upd (fun i => if i < j then 1 else 0) j 1)))) := ⟨_, rfl⟩
    have hm : mS D mCl (mA ad G s.heap.size) s.heap ad_5 G_367 H locs := by rw [eG_367]; exact hm
    have g_368 := (congrFun eG_367 0).trans ((va_up_ne _ _ (by decide)).trans g_13)
    have g_369 : G_367 1 = some (.inl ((dA 0), 16, .inl (upd (fun i => if i < j then 1 else 0) j 1))) := by rw [eG_367, va_up_self]
    refine lv_iinc (v := nI (j + 1)) (lv' := [(2, .int (nI (j + 1))), (0, .ref a0)]) hx hb d_E_init_35 hl (k := 1) rfl (nI_1 _) (by decide) rfl (fun ls hl => ?_)
    refine lv_goto (tgt := 19) hx hb d_E_init_38 (by decide) ?_
    exact ih19 (j + 1) ls H locs (⟨by omega, by omega, trivial⟩) (lv_sub hl [1, 0] rfl) (by
      have h9 : G_367 = va_up G_10 1 (some (.inl (dA 0, 16, .inl (fun i => if i < (j + 1) then 1 else 0)))) := by
        rw [eG_367, eGb, bx_uu]
        congr 6
        funext i
        unfold upd
        by_cases h : i = j
        · simp [h]
        · by_cases h2 : i < j
          · simp [h, h2, show i < j + 1 by omega]
          · simp [h, h2, show ¬ i < j + 1 by omega]
      rw [← h9]
      exact hm)
