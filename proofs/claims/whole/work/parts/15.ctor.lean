set_option maxHeartbeats 4000000 in
set_option maxRecDepth 100000 in
theorem c_Or_init (l : Launch) (D : va_G) (dA : Nat → ClassId) (ad : Nat → Nat) (G : mG) (sz : Nat) (a0 : Nat) (r : Nat) (p0 p1 : Int32) (hz : a0 = ad r) (hg : G r = some (.inr (0, [.int 0, .int 0, .int 0]))) : Met l y_Or_init (.code y_Or_init b_Or_init 3 none :: mBig) ({ frames := 1, cells := 0, slots := 0, locals := 12 }) (mPc [.ref a0, .int p0, .int p1] D mCl (mTys dA) mTx ad G sz) (mQv (fun (u : mU) => (u = (ad, va_up G r (some (.inr (0, [.int p0, .int p1, .int 0])))))) D mCl ad G sz) 0 0 (mA ad G sz) := by
  refine Met.ofW (cc := b_Or_init) (maxL := 3) (ret := none) (by decide) rfl ?_
  intro p e s m args below meth c s₁ B hml hv
  obtain ⟨rfl, hsz, hw0, hC⟩ := hv
  have hx := B.exec
  have hb := B.bytes
  have hr := B.returns
  have hts := atoms_spec (ws := .code y_Or_init b_Or_init 3 none :: mBig) B.pre
  have hT : ∀ w ∈ mBig, w.before _ s = true := fun w h => hts w (List.mem_cons_of_mem _ h)
  have hown : s.vm.findClass "EdgeWear$Order" = some m.cls := findClass_of_methodNamed B.named
  have hlocks := B.notSynchronized
  subst hsz
  have hm := mS.start hw0
  have hin : meth.name = "<init>" := (name_of_methodNamed B.named B.method).1
  have hA : ∀ q : Nat, s.heap.size ≤ q → mA ad G s.heap.size q := fun q h => Or.inr h
  have hl := lv_entry ([.ref a0, .int p0, .int p1]) (n := 3) (Nat.le_of_ble_eq_true rfl)
  rw [lg_entry_eq]
  generalize (lg_sl ([.ref a0, .int p0, .int p1]) ++ List.replicate (3 - (lg_sl ([.ref a0, .int p0, .int p1])).length) Slot.unset).toArray = ls at hl ⊢
  have hl : lv_has ls 3 [(0, .ref a0), (1, .int p0), (2, .int p1)] := hl
  refine lv_aload_n hx hb d_Or_init_0 rfl (lv_at hl 0 rfl) ?_
  refine W.objInit hx hb hown (hT _ k_538) (hT _ k_22) (hT _ k_23) rfl (by rw [hml]; exact hl.1) rfl d_Or_init_1 (Nat.le_of_ble_eq_true rfl) (Nat.le_of_ble_eq_true rfl) ?_
  refine W.eq (g2 := F0 m 4 ls []) rfl ?_
  refine lv_aload_n hx hb d_Or_init_4 rfl (lv_at hl 0 rfl) ?_
  refine lv_iload_n hx hb d_Or_init_5 rfl (lv_at hl 1 rfl) ?_
  refine m_putF (v := .int p0) (ty := .int) (C := R_Or) (T := T_Or) (N := 3) hx hb hT in_Or t_Or tok_Or nm_Or hown hC.1 hm r hz hg rfl 0 (by decide) (hT _ k_539) (fun _ h9 => h9) rfl hin rfl (by decide +kernel) rfl rfl (Nat.le_of_ble_eq_true rfl) d_Or_init_6 (fun H locs hm => ?_)
  obtain ⟨G_1, eG_1⟩ : ∃ z : mG, z = va_up G r (some (.inr (0, [.int p0, .int 0, .int 0]))) := ⟨_, rfl⟩
  have hm : mS D mCl (mA ad G s.heap.size) s.heap ad G_1 H locs := by rw [eG_1]; exact hm
  have g_2 : G_1 r = some (.inr (0, [.int p0, .int 0, .int 0])) := by rw [eG_1, va_up_self]
  refine lv_aload_n hx hb d_Or_init_9 rfl (lv_at hl 0 rfl) ?_
  refine lv_iload_n hx hb d_Or_init_10 rfl (lv_at hl 2 rfl) ?_
  refine m_putF (v := .int p1) (ty := .int) (C := R_Or) (T := T_Or) (N := 3) hx hb hT in_Or t_Or tok_Or nm_Or hown hC.1 hm r hz g_2 rfl 1 (by decide) (hT _ k_540) (fun _ h9 => h9) rfl hin rfl (by decide +kernel) rfl rfl (Nat.le_of_ble_eq_true rfl) d_Or_init_11 (fun H locs hm => ?_)
  obtain ⟨G_3, eG_3⟩ : ∃ z : mG, z = va_up G_1 r (some (.inr (0, [.int p0, .int p1, .int 0]))) := ⟨_, rfl⟩
  have hm : mS D mCl (mA ad G s.heap.size) s.heap ad G_3 H locs := by rw [eG_3]; exact hm
  have g_4 : G_3 r = some (.inr (0, [.int p0, .int p1, .int 0])) := by rw [eG_3, va_up_self]
  exact m_vret hx hb hr hm (by simp only [eG_3, eG_1, bx_uu]) d_Or_init_14 hlocks

set_option maxHeartbeats 4000000 in
set_option maxRecDepth 100000 in
theorem c_Ru_init (l : Launch) (D : va_G) (dA : Nat → ClassId) (ad : Nat → Nat) (G : mG) (sz : Nat) (a0 : Nat) (r : Nat) (hz : a0 = ad r) (hg : G r = some (.inr (2, [.int 0, .int 0, .int 0, .int 0]))) : Met l y_Ru_init (.code y_Ru_init b_Ru_init 1 none :: mBig) ({ frames := 1, cells := 0, slots := 0, locals := 12 }) (mPc [.ref a0] D mCl (mTys dA) mTx ad G sz) (mQv (fun (u : mU) => (u = (ad, va_up G r (some (.inr (2, [.int 1000, .int 4, .int 500, .int 600])))))) D mCl ad G sz) 0 0 (mA ad G sz) := by
  refine Met.ofW (cc := b_Ru_init) (maxL := 1) (ret := none) (by decide) rfl ?_
  intro p e s m args below meth c s₁ B hml hv
  obtain ⟨rfl, hsz, hw0, hC⟩ := hv
  have hx := B.exec
  have hb := B.bytes
  have hr := B.returns
  have hts := atoms_spec (ws := .code y_Ru_init b_Ru_init 1 none :: mBig) B.pre
  have hT : ∀ w ∈ mBig, w.before _ s = true := fun w h => hts w (List.mem_cons_of_mem _ h)
  have hown : s.vm.findClass "EdgeWear$Rules" = some m.cls := findClass_of_methodNamed B.named
  have hlocks := B.notSynchronized
  subst hsz
  have hm := mS.start hw0
  have hin : meth.name = "<init>" := (name_of_methodNamed B.named B.method).1
  have hA : ∀ q : Nat, s.heap.size ≤ q → mA ad G s.heap.size q := fun q h => Or.inr h
  have hl := lv_entry ([.ref a0]) (n := 1) (Nat.le_of_ble_eq_true rfl)
  rw [lg_entry_eq]
  generalize (lg_sl ([.ref a0]) ++ List.replicate (1 - (lg_sl ([.ref a0])).length) Slot.unset).toArray = ls at hl ⊢
  have hl : lv_has ls 1 [(0, .ref a0)] := hl
  refine lv_aload_n hx hb d_Ru_init_0 rfl (lv_at hl 0 rfl) ?_
  refine W.objInit hx hb hown (hT _ k_69) (hT _ k_22) (hT _ k_23) rfl (by rw [hml]; exact hl.1) rfl d_Ru_init_1 (Nat.le_of_ble_eq_true rfl) (Nat.le_of_ble_eq_true rfl) ?_
  refine W.eq (g2 := F0 m 4 ls []) rfl ?_
  refine lv_aload_n hx hb d_Ru_init_4 rfl (lv_at hl 0 rfl) ?_
  refine lv_sipush (v := 1000) hx hb d_Ru_init_5 (by decide) ?_
  refine m_put (v := .int 1000) (ty := .int) (C := R_Ru) (T := T_Ru) (N := 4) hx hb hT in_Ru t_Ru tok_Ru nm_Ru hown hC.1 hm r hz hg rfl 0 (by decide) (hT _ k_70) (fun _ h9 => h9) rfl (by decide +kernel) rfl rfl (Nat.le_of_ble_eq_true rfl) d_Ru_init_8 (fun H locs hm => ?_)
  obtain ⟨G_1, eG_1⟩ : ∃ z : mG, z = va_up G r (some (.inr (2, [.int 1000, .int 0, .int 0, .int 0]))) := ⟨_, rfl⟩
  have hm : mS D mCl (mA ad G s.heap.size) s.heap ad G_1 H locs := by rw [eG_1]; exact hm
  have g_2 : G_1 r = some (.inr (2, [.int 1000, .int 0, .int 0, .int 0])) := by rw [eG_1, va_up_self]
  refine lv_aload_n hx hb d_Ru_init_11 rfl (lv_at hl 0 rfl) ?_
  refine lv_iconst (v := 4) hx hb d_Ru_init_12 (by decide) ?_
  refine m_put (v := .int 4) (ty := .int) (C := R_Ru) (T := T_Ru) (N := 4) hx hb hT in_Ru t_Ru tok_Ru nm_Ru hown hC.1 hm r hz g_2 rfl 1 (by decide) (hT _ k_72) (fun _ h9 => h9) rfl (by decide +kernel) rfl rfl (Nat.le_of_ble_eq_true rfl) d_Ru_init_13 (fun H locs hm => ?_)
  obtain ⟨G_3, eG_3⟩ : ∃ z : mG, z = va_up G_1 r (some (.inr (2, [.int 1000, .int 4, .int 0, .int 0]))) := ⟨_, rfl⟩
  have hm : mS D mCl (mA ad G s.heap.size) s.heap ad G_3 H locs := by rw [eG_3]; exact hm
  have g_4 : G_3 r = some (.inr (2, [.int 1000, .int 4, .int 0, .int 0])) := by rw [eG_3, va_up_self]
  refine lv_aload_n hx hb d_Ru_init_16 rfl (lv_at hl 0 rfl) ?_
  refine lv_sipush (v := 500) hx hb d_Ru_init_17 (by decide) ?_
  refine m_put (v := .int 500) (ty := .int) (C := R_Ru) (T := T_Ru) (N := 4) hx hb hT in_Ru t_Ru tok_Ru nm_Ru hown hC.1 hm r hz g_4 rfl 2 (by decide) (hT _ k_74) (fun _ h9 => h9) rfl (by decide +kernel) rfl rfl (Nat.le_of_ble_eq_true rfl) d_Ru_init_20 (fun H locs hm => ?_)
  obtain ⟨G_5, eG_5⟩ : ∃ z : mG, z = va_up G_3 r (some (.inr (2, [.int 1000, .int 4, .int 500, .int 0]))) := ⟨_, rfl⟩
  have hm : mS D mCl (mA ad G s.heap.size) s.heap ad G_5 H locs := by rw [eG_5]; exact hm
  have g_6 : G_5 r = some (.inr (2, [.int 1000, .int 4, .int 500, .int 0])) := by rw [eG_5, va_up_self]
  refine lv_aload_n hx hb d_Ru_init_23 rfl (lv_at hl 0 rfl) ?_
  refine lv_sipush (v := 600) hx hb d_Ru_init_24 (by decide) ?_
  refine m_put (v := .int 600) (ty := .int) (C := R_Ru) (T := T_Ru) (N := 4) hx hb hT in_Ru t_Ru tok_Ru nm_Ru hown hC.1 hm r hz g_6 rfl 3 (by decide) (hT _ k_76) (fun _ h9 => h9) rfl (by decide +kernel) rfl rfl (Nat.le_of_ble_eq_true rfl) d_Ru_init_27 (fun H locs hm => ?_)
  obtain ⟨G_7, eG_7⟩ : ∃ z : mG, z = va_up G_5 r (some (.inr (2, [.int 1000, .int 4, .int 500, .int 600]))) := ⟨_, rfl⟩
  have hm : mS D mCl (mA ad G s.heap.size) s.heap ad G_7 H locs := by rw [eG_7]; exact hm
  have g_8 : G_7 r = some (.inr (2, [.int 1000, .int 4, .int 500, .int 600])) := by rw [eG_7, va_up_self]
  exact m_vret hx hb hr hm (by simp only [eG_7, eG_5, eG_3, eG_1, bx_uu]) d_Ru_init_30 hlocks

set_option maxHeartbeats 4000000 in
set_option maxRecDepth 100000 in
theorem c_Rd_init (l : Launch) (D : va_G) (dA : Nat → ClassId) (ad : Nat → Nat) (G : mG) (sz : Nat) (a0 : Nat) (r ra : Nat) (hne : r ≠ ra) (hn : G ra = none) (hz : a0 = ad r) (hg : G r = some (.inr (1, [.null, .int 0, .int 0]))) : Met l y_Rd_init (.code y_Rd_init b_Rd_init 1 none :: mBig) ({ frames := 1, cells := 1, slots := 24, locals := 12 }) (mPc [.ref a0] D mCl (mTys dA) mTx ad G sz) (mQv (fun (u : mU) => (∃ q : Nat, u = (va_up ad ra q, va_up (va_up G ra (some (.inl (dA 0, 24, .inl (fun _ => 0))))) r (some (.inr (1, [.ref q, .int 0, .int (-1)])))))) D mCl ad G sz) 1 24 (mA ad G sz) := by
  refine Met.ofW (cc := b_Rd_init) (maxL := 1) (ret := none) (by decide) rfl ?_
  intro p e s m args below meth c s₁ B hml hv
  obtain ⟨rfl, hsz, hw0, hC⟩ := hv
  have hx := B.exec
  have hb := B.bytes
  have hr := B.returns
  have hts := atoms_spec (ws := .code y_Rd_init b_Rd_init 1 none :: mBig) B.pre
  have hT : ∀ w ∈ mBig, w.before _ s = true := fun w h => hts w (List.mem_cons_of_mem _ h)
  have hown : s.vm.findClass "EdgeWear$Readings" = some m.cls := findClass_of_methodNamed B.named
  have hlocks := B.notSynchronized
  subst hsz
  have hm := mS.start hw0
  have hin : meth.name = "<init>" := (name_of_methodNamed B.named B.method).1
  have hA : ∀ q : Nat, s.heap.size ≤ q → mA ad G s.heap.size q := fun q h => Or.inr h
  have hl := lv_entry ([.ref a0]) (n := 1) (Nat.le_of_ble_eq_true rfl)
  rw [lg_entry_eq]
  generalize (lg_sl ([.ref a0]) ++ List.replicate (1 - (lg_sl ([.ref a0])).length) Slot.unset).toArray = ls at hl ⊢
  have hl : lv_has ls 1 [(0, .ref a0)] := hl
  refine lv_aload_n hx hb d_Rd_init_0 rfl (lv_at hl 0 rfl) ?_
  refine W.objInit hx hb hown (hT _ k_244) (hT _ k_22) (hT _ k_23) rfl (by rw [hml]; exact hl.1) rfl d_Rd_init_1 (Nat.le_of_ble_eq_true rfl) (Nat.le_of_ble_eq_true rfl) ?_
  refine W.eq (g2 := F0 m 4 ls []) rfl ?_
  refine lv_aload_n hx hb d_Rd_init_4 rfl (lv_at hl 0 rfl) ?_
  refine lv_bipush (v := 24) hx hb d_Rd_init_5 (by decide) ?_
  refine m_newa (atype := .int) (ty := .int) (a0 := (24, .inl (fun _ => 0))) (cA := (dA 0)) hx hb (hT _ k_59) rfl hm hA ra (hn) (show _ from (hC.1.2 0 _ rfl).2) (fun _ => rfl) (by decide) (by decide) (by decide) (Nat.le_of_ble_eq_true rfl) (Nat.le_of_ble_eq_true rfl) d_Rd_init_7 (fun q_1 H hm => ?_)
  obtain ⟨G_2, eG_2⟩ : ∃ z : mG, z = va_up G ra (some (.inl ((dA 0), 24, .inl (fun _ => 0)))) := ⟨_, rfl⟩
  obtain ⟨ad_3, ead_3⟩ : ∃ z : Nat → Nat, z = va_up ad ra q_1 := ⟨_, rfl⟩
  have hm : mS D mCl (mA ad G s.heap.size) s.heap ad_3 G_2 H [] := by rw [eG_2, ead_3]; exact hm
  have g_4 := (congrFun eG_2 r).trans ((va_up_ne _ _ (hne)).trans hg)
  have g_5 : G_2 ra = some (.inl ((dA 0), 24, .inl (fun _ => 0))) := by rw [eG_2, va_up_self]
  have z_6 : a0 = ad_3 r := by rw [ead_3, va_up_ne _ _ (hne)]; exact hz
  have z_7 : q_1 = ad_3 ra := by rw [ead_3, va_up_self]
  refine m_putF (v := .ref q_1) (ty := (.array .int)) (C := R_Rd) (T := T_Rd) (N := 3) hx hb hT in_Rd t_Rd tok_Rd nm_Rd hown hC.1 hm r z_6 g_4 rfl 0 (by decide) (hT _ k_245) (fun _ h9 => h9) rfl hin rfl (by decide +kernel) rfl rfl (Nat.le_of_ble_eq_true rfl) d_Rd_init_9 (fun H locs hm => ?_)
  obtain ⟨G_8, eG_8⟩ : ∃ z : mG, z = va_up G_2 r (some (.inr (1, [.ref q_1, .int 0, .int 0]))) := ⟨_, rfl⟩
  have hm : mS D mCl (mA ad G s.heap.size) s.heap ad_3 G_8 H locs := by rw [eG_8]; exact hm
  have g_9 : G_8 r = some (.inr (1, [.ref q_1, .int 0, .int 0])) := by rw [eG_8, va_up_self]
  have g_10 := (congrFun eG_8 ra).trans ((va_up_ne _ _ (Ne.symm hne)).trans g_5)
  refine lv_aload_n hx hb d_Rd_init_12 rfl (lv_at hl 0 rfl) ?_
  refine lv_iconst (v := (-1)) hx hb d_Rd_init_13 (by decide) ?_
  refine m_put (v := .int (-1)) (ty := .int) (C := R_Rd) (T := T_Rd) (N := 3) hx hb hT in_Rd t_Rd tok_Rd nm_Rd hown hC.1 hm r z_6 g_9 rfl 2 (by decide) (hT _ k_247) (fun _ h9 => h9) rfl (by decide +kernel) rfl rfl (Nat.le_of_ble_eq_true rfl) d_Rd_init_14 (fun H locs hm => ?_)
  obtain ⟨G_11, eG_11⟩ : ∃ z : mG, z = va_up G_8 r (some (.inr (1, [.ref q_1, .int 0, .int (-1)]))) := ⟨_, rfl⟩
  have hm : mS D mCl (mA ad G s.heap.size) s.heap ad_3 G_11 H locs := by rw [eG_11]; exact hm
  have g_12 : G_11 r = some (.inr (1, [.ref q_1, .int 0, .int (-1)])) := by rw [eG_11, va_up_self]
  have g_13 := (congrFun eG_11 ra).trans ((va_up_ne _ _ (Ne.symm hne)).trans g_10)
  exact m_vret hx hb hr hm (⟨q_1, by simp only [eG_11, eG_8, ead_3, eG_2, bx_uu, up3 _ _ _ _ hne]⟩) d_Rd_init_17 hlocks

set_option maxHeartbeats 4000000 in
set_option maxRecDepth 100000 in
theorem c_So_init (l : Launch) (D : va_G) (dA : Nat → ClassId) (ad : Nat → Nat) (G : mG) (sz : Nat) (a0 : Nat) (r ra : Nat) (p0 : Int32) (hne : r ≠ ra) (hn : G ra = none) (hz : a0 = ad r) (hg : G r = some (.inr (3, [.int 0, .null, .int 0, .long 0, .int 0, .int 0]))) : Met l y_So_init (.code y_So_init b_So_init 2 none :: mBig) ({ frames := 1, cells := 1, slots := 40, locals := 12 }) (mPc [.ref a0, .int p0] D mCl (mTys dA) mTx ad G sz) (mQv (fun (u : mU) => (∃ q : Nat, u = (va_up ad ra q, va_up (va_up G ra (some (.inl (dA 0, 40, .inl (fun _ => 0))))) r (some (.inr (3, [.int p0, .ref q, .int 0, .long 1000000, .int 1, .int 1])))))) D mCl ad G sz) 1 40 (mA ad G sz) := by
  refine Met.ofW (cc := b_So_init) (maxL := 2) (ret := none) (by decide) rfl ?_
  intro p e s m args below meth c s₁ B hml hv
  obtain ⟨rfl, hsz, hw0, hC⟩ := hv
  have hx := B.exec
  have hb := B.bytes
  have hr := B.returns
  have hts := atoms_spec (ws := .code y_So_init b_So_init 2 none :: mBig) B.pre
  have hT : ∀ w ∈ mBig, w.before _ s = true := fun w h => hts w (List.mem_cons_of_mem _ h)
  have hown : s.vm.findClass "EdgeWear$Sort" = some m.cls := findClass_of_methodNamed B.named
  have hlocks := B.notSynchronized
  subst hsz
  have hm := mS.start hw0
  have hin : meth.name = "<init>" := (name_of_methodNamed B.named B.method).1
  have hA : ∀ q : Nat, s.heap.size ≤ q → mA ad G s.heap.size q := fun q h => Or.inr h
  have hl := lv_entry ([.ref a0, .int p0]) (n := 2) (Nat.le_of_ble_eq_true rfl)
  rw [lg_entry_eq]
  generalize (lg_sl ([.ref a0, .int p0]) ++ List.replicate (2 - (lg_sl ([.ref a0, .int p0])).length) Slot.unset).toArray = ls at hl ⊢
  have hl : lv_has ls 2 [(0, .ref a0), (1, .int p0)] := hl
  refine lv_aload_n hx hb d_So_init_0 rfl (lv_at hl 0 rfl) ?_
  refine W.objInit hx hb hown (hT _ k_30) (hT _ k_22) (hT _ k_23) rfl (by rw [hml]; exact hl.1) rfl d_So_init_1 (Nat.le_of_ble_eq_true rfl) (Nat.le_of_ble_eq_true rfl) ?_
  refine W.eq (g2 := F0 m 4 ls []) rfl ?_
  refine lv_aload_n hx hb d_So_init_4 rfl (lv_at hl 0 rfl) ?_
  refine lv_iload_n hx hb d_So_init_5 rfl (lv_at hl 1 rfl) ?_
  refine m_putF (v := .int p0) (ty := .int) (C := R_So) (T := T_So) (N := 6) hx hb hT in_So t_So tok_So nm_So hown hC.1 hm r hz hg rfl 0 (by decide) (hT _ k_32) (fun _ h9 => h9) rfl hin rfl (by decide +kernel) rfl rfl (Nat.le_of_ble_eq_true rfl) d_So_init_6 (fun H locs hm => ?_)
  obtain ⟨G_1, eG_1⟩ : ∃ z : mG, z = va_up G r (some (.inr (3, [.int p0, .null, .int 0, .long 0, .int 0, .int 0]))) := ⟨_, rfl⟩
  have hm : mS D mCl (mA ad G s.heap.size) s.heap ad G_1 H locs := by rw [eG_1]; exact hm
  have g_2 : G_1 r = some (.inr (3, [.int p0, .null, .int 0, .long 0, .int 0, .int 0])) := by rw [eG_1, va_up_self]
  refine lv_aload_n hx hb d_So_init_9 rfl (lv_at hl 0 rfl) ?_
  refine lv_bipush (v := 40) hx hb d_So_init_10 (by decide) ?_
  refine m_newa (atype := .int) (ty := .int) (a0 := (40, .inl (fun _ => 0))) (cA := (dA 0)) hx hb (hT _ k_59) rfl hm hA ra (by rw [eG_1, va_up_ne _ _ (Ne.symm hne)]; exact hn) (show _ from (hC.1.2 0 _ rfl).2) (fun _ => rfl) (by decide) (by decide) (by decide) (Nat.le_of_ble_eq_true rfl) (Nat.le_of_ble_eq_true rfl) d_So_init_12 (fun q_3 H hm => ?_)
  obtain ⟨G_4, eG_4⟩ : ∃ z : mG, z = va_up G_1 ra (some (.inl ((dA 0), 40, .inl (fun _ => 0)))) := ⟨_, rfl⟩
  obtain ⟨ad_5, ead_5⟩ : ∃ z : Nat → Nat, z = va_up ad ra q_3 := ⟨_, rfl⟩
  have hm : mS D mCl (mA ad G s.heap.size) s.heap ad_5 G_4 H locs := by rw [eG_4, ead_5]; exact hm
  have g_6 := (congrFun eG_4 r).trans ((va_up_ne _ _ (hne)).trans g_2)
  have g_7 : G_4 ra = some (.inl ((dA 0), 40, .inl (fun _ => 0))) := by rw [eG_4, va_up_self]
  have z_8 : a0 = ad_5 r := by rw [ead_5, va_up_ne _ _ (hne)]; exact hz
  have z_9 : q_3 = ad_5 ra := by rw [ead_5, va_up_self]
  refine m_putF (v := .ref q_3) (ty := (.array .int)) (C := R_So) (T := T_So) (N := 6) hx hb hT in_So t_So tok_So nm_So hown hC.1 hm r z_8 g_6 rfl 1 (by decide) (hT _ k_35) (fun _ h9 => h9) rfl hin rfl (by decide +kernel) rfl rfl (Nat.le_of_ble_eq_true rfl) d_So_init_14 (fun H locs hm => ?_)
  obtain ⟨G_10, eG_10⟩ : ∃ z : mG, z = va_up G_4 r (some (.inr (3, [.int p0, .ref q_3, .int 0, .long 0, .int 0, .int 0]))) := ⟨_, rfl⟩
  have hm : mS D mCl (mA ad G s.heap.size) s.heap ad_5 G_10 H locs := by rw [eG_10]; exact hm
  have g_11 : G_10 r = some (.inr (3, [.int p0, .ref q_3, .int 0, .long 0, .int 0, .int 0])) := by rw [eG_10, va_up_self]
  have g_12 := (congrFun eG_10 ra).trans ((va_up_ne _ _ (Ne.symm hne)).trans g_7)
  refine lv_aload_n hx hb d_So_init_17 rfl (lv_at hl 0 rfl) ?_
  refine lv_ldc2 (v := 1000000) hx hb hown (hT _ k_31) d_So_init_18 ?_
  refine m_put (v := .long 1000000) (ty := .long) (C := R_So) (T := T_So) (N := 6) hx hb hT in_So t_So tok_So nm_So hown hC.1 hm r z_8 g_11 rfl 3 (by decide) (hT _ k_39) (fun _ h9 => h9) rfl (by decide +kernel) rfl rfl (Nat.le_of_ble_eq_true rfl) d_So_init_21 (fun H locs hm => ?_)
  obtain ⟨G_13, eG_13⟩ : ∃ z : mG, z = va_up G_10 r (some (.inr (3, [.int p0, .ref q_3, .int 0, .long 1000000, .int 0, .int 0]))) := ⟨_, rfl⟩
  have hm : mS D mCl (mA ad G s.heap.size) s.heap ad_5 G_13 H locs := by rw [eG_13]; exact hm
  have g_14 : G_13 r = some (.inr (3, [.int p0, .ref q_3, .int 0, .long 1000000, .int 0, .int 0])) := by rw [eG_13, va_up_self]
  have g_15 := (congrFun eG_13 ra).trans ((va_up_ne _ _ (Ne.symm hne)).trans g_12)
  refine lv_aload_n hx hb d_So_init_24 rfl (lv_at hl 0 rfl) ?_
  refine lv_iconst (v := 1) hx hb d_So_init_25 (by decide) ?_
  refine m_put (v := .int 1) (ty := .int) (C := R_So) (T := T_So) (N := 6) hx hb hT in_So t_So tok_So nm_So hown hC.1 hm r z_8 g_14 rfl 4 (by decide) (hT _ k_42) (fun _ h9 => h9) rfl (by decide +kernel) rfl rfl (Nat.le_of_ble_eq_true rfl) d_So_init_26 (fun H locs hm => ?_)
  obtain ⟨G_16, eG_16⟩ : ∃ z : mG, z = va_up G_13 r (some (.inr (3, [.int p0, .ref q_3, .int 0, .long 1000000, .int 1, .int 0]))) := ⟨_, rfl⟩
  have hm : mS D mCl (mA ad G s.heap.size) s.heap ad_5 G_16 H locs := by rw [eG_16]; exact hm
  have g_17 : G_16 r = some (.inr (3, [.int p0, .ref q_3, .int 0, .long 1000000, .int 1, .int 0])) := by rw [eG_16, va_up_self]
  have g_18 := (congrFun eG_16 ra).trans ((va_up_ne _ _ (Ne.symm hne)).trans g_15)
  refine lv_aload_n hx hb d_So_init_29 rfl (lv_at hl 0 rfl) ?_
  refine lv_iconst (v := 1) hx hb d_So_init_30 (by decide) ?_
  refine m_put (v := .int 1) (ty := .int) (C := R_So) (T := T_So) (N := 6) hx hb hT in_So t_So tok_So nm_So hown hC.1 hm r z_8 g_17 rfl 5 (by decide) (hT _ k_44) (fun _ h9 => h9) rfl (by decide +kernel) rfl rfl (Nat.le_of_ble_eq_true rfl) d_So_init_31 (fun H locs hm => ?_)
  obtain ⟨G_19, eG_19⟩ : ∃ z : mG, z = va_up G_16 r (some (.inr (3, [.int p0, .ref q_3, .int 0, .long 1000000, .int 1, .int 1]))) := ⟨_, rfl⟩
  have hm : mS D mCl (mA ad G s.heap.size) s.heap ad_5 G_19 H locs := by rw [eG_19]; exact hm
  have g_20 : G_19 r = some (.inr (3, [.int p0, .ref q_3, .int 0, .long 1000000, .int 1, .int 1])) := by rw [eG_19, va_up_self]
  have g_21 := (congrFun eG_19 ra).trans ((va_up_ne _ _ (Ne.symm hne)).trans g_18)
  exact m_vret hx hb hr hm (⟨q_3, by simp only [eG_19, eG_16, eG_13, eG_10, ead_5, eG_4, eG_1, bx_uu, up3 _ _ _ _ hne]⟩) d_So_init_34 hlocks

set_option maxHeartbeats 4000000 in
set_option maxRecDepth 100000 in
theorem c_To_init (l : Launch) (D : va_G) (dA : Nat → ClassId) (ad : Nat → Nat) (G : mG) (sz : Nat) (a0 : Nat) (r rr ra sa : Nat) (p0 p1 : Int32) (h1 : r ≠ rr) (h2 : r ≠ ra) (h3 : rr ≠ ra) (n1 : G rr = none) (n2 : G ra = none) (hz : a0 = ad r) (hg : G r = some (.inr (4, [.null, .int 0, .null, .int 0, .long 0, .long 0, .long 0, .int 0, .int 0]))) : Met l y_To_init (.code y_To_init b_To_init 4 none :: mBig) ({ frames := 2, cells := 2, slots := 27, locals := 32 }) (mPc [.ref a0, .ref sa, .int p0, .int p1] D mCl (mTys dA) mTx ad G sz) (mQv (fun (u : mU) => (∃ q1 q2 : Nat, u = (va_up (va_up ad rr q1) ra q2, va_up (va_up (va_up G rr (some (.inr (1, [.ref q2, .int 0, .int (-1)])))) ra (some (.inl (dA 0, 24, .inl (fun _ => 0))))) r (some (.inr (4, [.ref sa, .int p1, .ref q1, .int p0, .long 0, .long 0, .long 0, .int 0, .int 0])))))) D mCl ad G sz) 2 27 (mA ad G sz) := by
  refine Met.ofW (cc := b_To_init) (maxL := 4) (ret := none) (by decide) rfl ?_
  intro p e s m args below meth c s₁ B hml hv
  obtain ⟨rfl, hsz, hw0, hC⟩ := hv
  have hx := B.exec
  have hb := B.bytes
  have hr := B.returns
  have hts := atoms_spec (ws := .code y_To_init b_To_init 4 none :: mBig) B.pre
  have hT : ∀ w ∈ mBig, w.before _ s = true := fun w h => hts w (List.mem_cons_of_mem _ h)
  have hown : s.vm.findClass "EdgeWear$Tool" = some m.cls := findClass_of_methodNamed B.named
  have hlocks := B.notSynchronized
  subst hsz
  have hm := mS.start hw0
  have hin : meth.name = "<init>" := (name_of_methodNamed B.named B.method).1
  have hA : ∀ q : Nat, s.heap.size ≤ q → mA ad G s.heap.size q := fun q h => Or.inr h
  have hl := lv_entry ([.ref a0, .ref sa, .int p0, .int p1]) (n := 4) (Nat.le_of_ble_eq_true rfl)
  rw [lg_entry_eq]
  generalize (lg_sl ([.ref a0, .ref sa, .int p0, .int p1]) ++ List.replicate (4 - (lg_sl ([.ref a0, .ref sa, .int p0, .int p1])).length) Slot.unset).toArray = ls at hl ⊢
  have hl : lv_has ls 4 [(0, .ref a0), (1, .ref sa), (2, .int p0), (3, .int p1)] := hl
  refine lv_aload_n hx hb d_To_init_0 rfl (lv_at hl 0 rfl) ?_
  refine W.objInit hx hb hown (hT _ k_238) (hT _ k_22) (hT _ k_23) rfl (by rw [hml]; exact hl.1) rfl d_To_init_1 (Nat.le_of_ble_eq_true rfl) (Nat.le_of_ble_eq_true rfl) ?_
  refine W.eq (g2 := F0 m 4 ls []) rfl ?_
  refine lv_aload_n hx hb d_To_init_4 rfl (lv_at hl 0 rfl) ?_
  refine lv_aload_n hx hb d_To_init_5 rfl (lv_at hl 1 rfl) ?_
  refine m_putF (v := .ref sa) (ty := (.object "EdgeWear$Sort")) (C := R_To) (T := T_To) (N := 9) hx hb hT in_To t_To tok_To nm_To hown hC.1 hm r hz hg rfl 0 (by decide) (hT _ k_256) (fun _ h9 => h9) rfl hin rfl (by decide +kernel) rfl rfl (Nat.le_of_ble_eq_true rfl) d_To_init_6 (fun H locs hm => ?_)
  obtain ⟨G_1, eG_1⟩ : ∃ z : mG, z = va_up G r (some (.inr (4, [.ref sa, .int 0, .null, .int 0, .long 0, .long 0, .long 0, .int 0, .int 0]))) := ⟨_, rfl⟩
  have hm : mS D mCl (mA ad G s.heap.size) s.heap ad G_1 H locs := by rw [eG_1]; exact hm
  have g_2 : G_1 r = some (.inr (4, [.ref sa, .int 0, .null, .int 0, .long 0, .long 0, .long 0, .int 0, .int 0])) := by rw [eG_1, va_up_self]
  refine lv_aload_n hx hb d_To_init_9 rfl (lv_at hl 0 rfl) ?_
  refine lv_iload_n hx hb d_To_init_10 rfl (lv_at hl 2 rfl) ?_
  refine m_put (v := .int p0) (ty := .int) (C := R_To) (T := T_To) (N := 9) hx hb hT in_To t_To tok_To nm_To hown hC.1 hm r hz g_2 rfl 3 (by decide) (hT _ k_261) (fun _ h9 => h9) rfl (by decide +kernel) rfl rfl (Nat.le_of_ble_eq_true rfl) d_To_init_11 (fun H locs hm => ?_)
  obtain ⟨G_3, eG_3⟩ : ∃ z : mG, z = va_up G_1 r (some (.inr (4, [.ref sa, .int 0, .null, .int p0, .long 0, .long 0, .long 0, .int 0, .int 0]))) := ⟨_, rfl⟩
  have hm : mS D mCl (mA ad G s.heap.size) s.heap ad G_3 H locs := by rw [eG_3]; exact hm
  have g_4 : G_3 r = some (.inr (4, [.ref sa, .int 0, .null, .int p0, .long 0, .long 0, .long 0, .int 0, .int 0])) := by rw [eG_3, va_up_self]
  refine lv_aload_n hx hb d_To_init_14 rfl (lv_at hl 0 rfl) ?_
  refine lv_iload_n hx hb d_To_init_15 rfl (lv_at hl 3 rfl) ?_
  refine m_putF (v := .int p1) (ty := .int) (C := R_To) (T := T_To) (N := 9) hx hb hT in_To t_To tok_To nm_To hown hC.1 hm r hz g_4 rfl 1 (by decide) (hT _ k_258) (fun _ h9 => h9) rfl hin rfl (by decide +kernel) rfl rfl (Nat.le_of_ble_eq_true rfl) d_To_init_16 (fun H locs hm => ?_)
  obtain ⟨G_5, eG_5⟩ : ∃ z : mG, z = va_up G_3 r (some (.inr (4, [.ref sa, .int p1, .null, .int p0, .long 0, .long 0, .long 0, .int 0, .int 0]))) := ⟨_, rfl⟩
  have hm : mS D mCl (mA ad G s.heap.size) s.heap ad G_5 H locs := by rw [eG_5]; exact hm
  have g_6 : G_5 r = some (.inr (4, [.ref sa, .int p1, .null, .int p0, .long 0, .long 0, .long 0, .int 0, .int 0])) := by rw [eG_5, va_up_self]
  refine lv_aload_n hx hb d_To_init_19 rfl (lv_at hl 0 rfl) ?_
  refine m_new (ci := 1) (fs := [.null, .int 0, .int 0]) (C := R_Rd) (T := T_Rd) (N := 3) hx hb hT in_Rd t_Rd tok_Rd hown (hT _ k_239) (hT _ k_240) (hT _ k_12) hC.1 hm hA rr (by rw [eG_5, va_up_ne _ _ (Ne.symm h1), eG_3, va_up_ne _ _ (Ne.symm h1), eG_1, va_up_ne _ _ (Ne.symm h1)]; exact n1) rfl (fun j hj => by rcases (show j = 0 ∨ j = 1 ∨ j = 2 by omega) with rfl | rfl | rfl <;> rfl) (Nat.le_of_ble_eq_true rfl) (Nat.le_of_ble_eq_true rfl) d_To_init_20 (fun q_7 H hm => ?_)
  obtain ⟨G_8, eG_8⟩ : ∃ z : mG, z = va_up G_5 rr (some (.inr (1, [.null, .int 0, .int 0]))) := ⟨_, rfl⟩
  obtain ⟨ad_9, ead_9⟩ : ∃ z : Nat → Nat, z = va_up ad rr q_7 := ⟨_, rfl⟩
  have hm : mS D mCl (mA ad G s.heap.size) s.heap ad_9 G_8 H locs := by rw [eG_8, ead_9]; exact hm
  have g_10 := (congrFun eG_8 r).trans ((va_up_ne _ _ (h1)).trans g_6)
  have g_11 : G_8 rr = some (.inr (1, [.null, .int 0, .int 0])) := by rw [eG_8, va_up_self]
  have z_12 : a0 = ad_9 r := by rw [ead_9, va_up_ne _ _ (h1)]; exact hz
  have z_13 : q_7 = ad_9 rr := by rw [ead_9, va_up_self]
  refine lv_dup hx hb d_To_init_23 rfl ?_
  refine m_callv (m_runI (As := []) (rest := [.ref q_7, .ref a0]) ⟨hx, hb, hml, hown, hts⟩ (c_Rd_init l D dA ad_9 G_8 H.size q_7 rr ra (h3) (by rw [eG_8, va_up_ne _ _ (Ne.symm h3), eG_5, va_up_ne _ _ (Ne.symm h2), eG_3, va_up_ne _ _ (Ne.symm h2), eG_1, va_up_ne _ _ (Ne.symm h2)]; exact n2) (z_13) g_11) (cwI 0 hts (gI k_243) rfl rfl rfl (hT _ k_12) (hT _ k_241) (hT _ k_242) rfl (by decide +kernel) ⟨Nat.le_of_ble_eq_true rfl, Nat.le_of_ble_eq_true rfl⟩) hm hA hC rfl hl.1 rfl (Nat.le_of_ble_eq_true rfl) d_To_init_24 ⟨Nat.le_of_ble_eq_true rfl, Nat.le_of_ble_eq_true rfl⟩) hm hA (fun ad_17 G_16 H locs w_15 hm => ?_)
  obtain ⟨q_18, u_19⟩ := w_15
  obtain ⟨ead_17, eG_16⟩ := Prod.mk.inj u_19
  have g_20 := (congrFun eG_16 r).trans ((va_up_ne _ _ (h1)).trans ((va_up_ne _ _ (h2)).trans g_10))
  have g_21 : G_16 rr = some (.inr (1, [.ref q_18, .int 0, .int (-1)])) := by rw [eG_16, va_up_self]
  have g_22 : G_16 ra = some (.inl (dA 0, 24, .inl (fun _ => 0))) := by rw [eG_16, va_up_ne _ _ (Ne.symm h3), va_up_self]
  have z_23 : a0 = ad_17 r := by rw [ead_17, va_up_ne _ _ (h2)]; exact z_12
  have z_24 : q_7 = ad_17 rr := by rw [ead_17, va_up_ne _ _ (h3)]; exact z_13
  have z_25 : q_18 = ad_17 ra := by rw [ead_17, va_up_self]
  refine m_putF (v := .ref q_7) (ty := (.object "EdgeWear$Readings")) (C := R_To) (T := T_To) (N := 9) hx hb hT in_To t_To tok_To nm_To hown hC.1 hm r z_23 g_20 rfl 2 (by decide) (hT _ k_259) (fun _ h9 => h9) rfl hin rfl (by decide +kernel) rfl rfl (Nat.le_of_ble_eq_true rfl) d_To_init_27 (fun H locs hm => ?_)
  obtain ⟨G_26, eG_26⟩ : ∃ z : mG, z = va_up G_16 r (some (.inr (4, [.ref sa, .int p1, .ref q_7, .int p0, .long 0, .long 0, .long 0, .int 0, .int 0]))) := ⟨_, rfl⟩
  have hm : mS D mCl (mA ad G s.heap.size) s.heap ad_17 G_26 H locs := by rw [eG_26]; exact hm
  have g_27 : G_26 r = some (.inr (4, [.ref sa, .int p1, .ref q_7, .int p0, .long 0, .long 0, .long 0, .int 0, .int 0])) := by rw [eG_26, va_up_self]
  have g_28 := (congrFun eG_26 rr).trans ((va_up_ne _ _ (Ne.symm h1)).trans g_21)
  have g_29 := (congrFun eG_26 ra).trans ((va_up_ne _ _ (Ne.symm h2)).trans g_22)
  exact m_vret hx hb hr hm (⟨q_7, q_18, by
    simp only [eG_26, ead_17, eG_16, ead_9, eG_8, eG_5, eG_3, eG_1, bx_uu]
    refine Prod.ext rfl ?_
    funext x
    have k1 := Ne.symm h1
    have k2 := Ne.symm h2
    have k3 := Ne.symm h3
    by_cases q1 : x = r
    · simp [va_up, q1]
    · by_cases q2 : x = rr
      · simp [va_up, q2, h1, h2, h3, k1, k2, k3]
      · by_cases q3 : x = ra
        · simp [va_up, q3, h1, h2, h3, k1, k2, k3]
        · simp [va_up, q1, q2, q3]⟩) d_To_init_30 hlocks
