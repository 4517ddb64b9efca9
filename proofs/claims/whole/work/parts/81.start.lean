/-! the start -/
def lwWs : List Cond := [.arrayOver (.object "EdgeWear$Sort"), .arrayOver (.object "EdgeWear$Tool"), .arrayOver (.object "EdgeWear$Order"), .laysStatic "java/lang/Throwable" "UNASSIGNED_STACK" "[Ljava/lang/StackTraceElement;", .laysStatic "java/lang/Throwable" "SUPPRESSED_SENTINEL" "Ljava/util/List;"]
theorem lw_mem1 : ∀ w ∈ lwWs, w ∈ lw_tbl := by decide +kernel
theorem lw_mem2 : ∀ w ∈ mYw, w ∈ lw_tbl := by decide +kernel
theorem lw_mem3 : ∀ q ∈ mTx, Cond.stringRef q.1 q.2.1 q.2.2 ∈ lw_tbl := by decide +kernel
def lwNs : List Cond := [.isRef (.static "java/lang/Throwable" "UNASSIGNED_STACK" "[Ljava/lang/StackTraceElement;"), .isRef (.static "java/lang/Throwable" "SUPPRESSED_SENTINEL" "Ljava/util/List;"), .not (.castable "java/lang/IllegalArgumentException" "java/lang/IndexOutOfBoundsException"), .not (.castable "java/lang/IllegalStateException" "java/lang/IndexOutOfBoundsException"), .not (.castable "java/lang/IllegalStateException" "java/lang/IllegalArgumentException")]
theorem lw_mem4 : ∀ w ∈ lwNs, w ∈ flatC (Jvm.Cond.and given_1 narrow_1) := by decide +kernel
theorem lw_mem5 : ∀ q ∈ mTx, Cond.exactly (.string q.1 q.2.1) "java/lang/String" ∈ flatC (Jvm.Cond.and given_1 narrow_1) := by decide +kernel
set_option maxHeartbeats 4000000 in
theorem lw_mC {s : State} {b : Nat} (hts : ∀ w ∈ lw_tbl, w.before #[Value.ref b] s = true) (hgv : (Jvm.Cond.and given_1 narrow_1).before #[Value.ref b] s = true) : ∃ (D : va_G) (dA : Nat → ClassId), mC D mCl (mTys dA) mTx (fun q => s.heap.size ≤ q) s s.heap := by
  have hT : ∀ w ∈ mBig, w.before #[Value.ref b] s = true := fun w h => hts w (List.mem_filter.mp h).1
  have hY : ∀ w ∈ lwWs, w.before #[Value.ref b] s = true := fun w h => hts w (lw_mem1 w h)
  have hN : ∀ w ∈ lwNs, w.before #[Value.ref b] s = true := fun w h => flat_of_before _ hgv w (lw_mem4 w h)
  obtain ⟨c0, i0, u0⟩ := u_known hT in_Or (hT _ k_534)
  obtain ⟨c1, i1, u1⟩ := u_known hT in_Rd (hT _ k_240)
  obtain ⟨c2, i2, u2⟩ := u_known hT in_Ru (hT _ k_65)
  obtain ⟨c3, i3, u3⟩ := u_known hT in_So (hT _ k_26)
  obtain ⟨c4, i4, u4⟩ := u_known hT in_To (hT _ k_234)
  obtain ⟨c5, i5, u5⟩ := u_known hT in_E (hT _ k_17)
  obtain ⟨c6, i6, u6⟩ := u_known hT in_M (hT _ k_584)
  obtain ⟨a0, k0, p0, f0, g0, q0⟩ := Cond.arrayClass_spec (hT (Cond.arrayClass ClassFile.FieldType.int) k_59)
  obtain ⟨a1, k1, p1, f1, g1, q1⟩ := Cond.arrayClass_spec (hT (Cond.arrayClass ClassFile.FieldType.long) k_675)
  obtain ⟨a2, k2, p2, f2, g2, q2⟩ := Cond.arrayClass_spec (hT (Cond.arrayClass ClassFile.FieldType.boolean) k_676)
  obtain ⟨p3, a3, k3, f3, -, g3, q3, n3⟩ := Cond.arrayOver_spec (hY (.arrayOver (.object "EdgeWear$Sort")) (by decide +kernel))
  obtain ⟨p4, a4, k4, f4, -, g4, q4, n4⟩ := Cond.arrayOver_spec (hY (.arrayOver (.object "EdgeWear$Tool")) (by decide +kernel))
  obtain ⟨p5, a5, k5, f5, -, g5, q5, n5⟩ := Cond.arrayOver_spec (hY (.arrayOver (.object "EdgeWear$Order")) (by decide +kernel))
  refine ⟨(fun c => match c with | 0 => c0 | 1 => c1 | 2 => c2 | 3 => c3 | 4 => c4 | 5 => c5 | _ => c6, fun c => match c with | 0 => i0 | 1 => i1 | 2 => i2 | 3 => i3 | 4 => i4 | 5 => i5 | _ => i6), (fun k => match k with | 0 => a0 | 1 => a1 | 2 => a2 | 3 => a3 | 4 => a4 | _ => a5), ⟨fun c q hq => ?_, fun k q hq => ?_⟩, ⟨?_, ?_⟩, fun q hq => ?_, ⟨⟨?_, ?_, ?_⟩, fun w hw => ?_, ?_, ?_, ?_⟩⟩
  · have hlt : c < 7 := (List.getElem?_eq_some_iff.mp hq).1
    rcases (show c = 0 ∨ c = 1 ∨ c = 2 ∨ c = 3 ∨ c = 4 ∨ c = 5 ∨ c = 6 by omega) with rfl | rfl | rfl | rfl | rfl | rfl | rfl
    · cases hq; exact u0
    · cases hq; exact u1
    · cases hq; exact u2
    · cases hq; exact u3
    · cases hq; exact u4
    · cases hq; exact u5
    · cases hq; exact u6
  · have hlt : k < 6 := (List.getElem?_eq_some_iff.mp hq).1
    rcases (show k = 0 ∨ k = 1 ∨ k = 2 ∨ k = 3 ∨ k = 4 ∨ k = 5 by omega) with rfl | rfl | rfl | rfl | rfl | rfl
    · cases hq; exact ⟨fun n z => ⟨fun k h => (by cases h), k0, g0, p0, q0⟩, f0⟩
    · cases hq; exact ⟨fun n z => ⟨fun k h => (by cases h), k1, g1, p1, q1⟩, f1⟩
    · cases hq; exact ⟨fun n z => ⟨fun k h => (by cases h), k2, g2, p2, q2⟩, f2⟩
    · cases hq; exact ⟨fun n z => ⟨fun k h => (by cases h), k3, g3, p3, q3⟩, k3, p3, g3, q3, f3, n3⟩
    · cases hq; exact ⟨fun n z => ⟨fun k h => (by cases h), k4, g4, p4, q4⟩, k4, p4, g4, q4, f4, n4⟩
    · cases hq; exact ⟨fun n z => ⟨fun k h => (by cases h), k5, g5, p5, q5⟩, k5, p5, g5, q5, f5, n5⟩
  · exact vx_Zqof (hY (.laysStatic "java/lang/Throwable" "UNASSIGNED_STACK" "[Ljava/lang/StackTraceElement;") (by decide +kernel)) (hT _ k_5) (hN (.isRef (.static "java/lang/Throwable" "UNASSIGNED_STACK" "[Ljava/lang/StackTraceElement;")) (by decide +kernel)) (fun a h => Nat.not_le.mpr h)
  · exact vx_Zqof (hY (.laysStatic "java/lang/Throwable" "SUPPRESSED_SENTINEL" "Ljava/util/List;") (by decide +kernel)) (hT _ k_5) (hN (.isRef (.static "java/lang/Throwable" "SUPPRESSED_SENTINEL" "Ljava/util/List;")) (by decide +kernel)) (fun a h => Nat.not_le.mpr h)
  · obtain ⟨a, -, -, -, h1, -⟩ := Cond.exactly_spec (flat_of_before _ hgv _ (lw_mem5 q hq))
    exact ⟨a, vk_R.of (hts _ (lw_mem3 q hq)) h1⟩
  · exact va_AO.of (hY (.arrayOver (.object "EdgeWear$Sort")) (by decide +kernel))
  · exact va_AO.of (hY (.arrayOver (.object "EdgeWear$Tool")) (by decide +kernel))
  · exact va_AO.of (hY (.arrayOver (.object "EdgeWear$Order")) (by decide +kernel))
  · exact va_Nw.of (mYw_on w hw) (hts w (lw_mem2 w hw))
  · exact va_Nc.of (hN (.not (.castable "java/lang/IllegalArgumentException" "java/lang/IndexOutOfBoundsException")) (by decide +kernel))
  · exact va_Nc.of (hN (.not (.castable "java/lang/IllegalStateException" "java/lang/IndexOutOfBoundsException")) (by decide +kernel))
  · exact va_Nc.of (hN (.not (.castable "java/lang/IllegalStateException" "java/lang/IllegalArgumentException")) (by decide +kernel))
def lw_v (L : Nat) (xs : Nat → Int32) : Int32 := if 0 < L then xs 0 else 0
set_option maxHeartbeats 4000000 in
theorem c_L_cell (l : Launch) (b L : Nat) (xs : Nat → Int32) (H0 : Heap) : Met l y_L_cell (.code y_L_cell b_L_cell 2 (some .int) :: mBig) ({ frames := 0, cells := 0, slots := 0, locals := 0 }) (va_Pc [.ref b, .int 0] (fun U => U.heap = H0 ∧ va_X b L xs U H0 ∧ b < H0.size ∧ L ≤ 2561)) (va_Qi (fun (r : Int32) (_ : Unit) => r = lw_v L xs) (fun _ _ => True) (fun q => H0.size ≤ q)) 0 0 (fun q => H0.size ≤ q) := by
  refine Met.ofW (cc := b_L_cell) (maxL := 2) (ret := some .int) (by decide) rfl ?_
  intro p e s m args below meth c s₁ BB hml hv
  obtain ⟨rfl, hH, hX, hbl, hL⟩ := hv
  subst hH
  have hx := BB.exec
  have hb := BB.bytes
  have hr := BB.returns
  have hlocks := BB.notSynchronized
  have hl := lv_entry ([.ref b, .int 0]) (n := 2) (Nat.le_of_ble_eq_true rfl)
  rw [lg_entry_eq]
  generalize (lg_sl ([.ref b, .int 0]) ++ List.replicate (2 - (lg_sl ([.ref b, .int 0])).length) Slot.unset).toArray = ls at hl ⊢
  have hl : lv_has ls 2 [(0, .ref b), (1, .int 0)] := hl
  have hS : va_S (fun q => s.heap.size ≤ q) s.heap s.heap [] := va_S.rf
  refine lv_iload_n hx hb d_L_cell_0 rfl (lv_at hl 1 rfl) ?_
  refine lv_aload_n hx hb d_L_cell_1 rfl (lv_at hl 0 rfl) ?_
  refine va_slen hx hb hX hbl (Nat.not_le.mpr hbl) hS d_L_cell_2 ?_
  refine lv_icmp_ge (tgt := 12) hx hb d_L_cell_3 (by decide) (fun c1 => ?_) (fun c1 => ?_)
  · refine lv_iconst (v := 0) hx hb d_L_cell_12 (by decide) ?_
    have hv : (0 : Int32) = lw_v L xs := by
      have h0 : ¬ 0 < L := fun h => nI_ge (a := 0) (b := L) h (by omega) c1
      rw [lw_v, if_neg h0]
    exact W.iret hx hb hr (fun t ht hW => ⟨⟨0, (), rfl, hv, trivial⟩, hS.F ht⟩) (fun q h => nomatch h) d_L_cell_13 hlocks
  · have h0 : 0 < L := Nat.pos_of_ne_zero (fun h => c1 (by rw [h]; decide))
    refine lv_aload_n hx hb d_L_cell_6 rfl (lv_at hl 0 rfl) ?_
    refine lv_iload_n hx hb d_L_cell_7 rfl (lv_at hl 1 rfl) ?_
    refine va_sld hx hb hX hbl (Nat.not_le.mpr hbl) hS (show vp_in (nI 0) L from nI_in h0 (by omega)) d_L_cell_8 ?_
    refine lv_goto (tgt := 13) hx hb d_L_cell_9 (by decide) ?_
    have hv : xs (0 : Int32).toNatClampNeg = lw_v L xs := by
      rw [lw_v, if_pos h0]
      rfl
    exact W.iret hx hb hr (fun t ht hW => ⟨⟨_, (), rfl, hv, trivial⟩, hS.F ht⟩) (fun q h => nomatch h) d_L_cell_13 hlocks
theorem lw_cell {p : Program} {l : Launch} {e : Env} {s : State} {m : MethodId} {b : Nat} {below : List Frame} {meth : Method} {c : Code} {D : va_G} {dA : Nat → ClassId} {L : Nat} {xs : Nat → Int32} {ad : Nat → Nat} {G : mG} {H : Heap} {locs : List Loc} {cells slots pc : Nat} {Q : State → Prop} {ls : Array Slot} {rest : List Value} (C1 : lwC p s m meth c D dA b L xs) (hm : mS D mCl (fun q => s.heap.size ≤ q) s.heap ad G H locs) (hs : ls.size = 8) (hr : (rest.map fun v => v.category).sum ≤ 8) (hdg : decode code pc = .ok (.invokestatic 84, 3)) (hf : cells + 0 ≤ room_1.cells ∧ slots + 0 ≤ room_1.slots)
    (kk : ∀ (H : Heap) (locs : List Loc), mS D mCl (fun q => s.heap.size ≤ q) s.heap ad G H locs → W p l e room_1 s m #[Value.ref b] below meth c H locs (cells + 0) (slots + 0) Q (F0 m (pc + 3) ls (.int (lw_v L xs) :: rest))) : W p l e room_1 s m #[Value.ref b] below meth c H locs cells slots Q (F0 m pc ls (.int 0 :: .ref b :: rest)) := by
  obtain ⟨⟨hx, hb, hrt, hml, hown⟩, hts, ⟨hX, hbl, hL⟩, hlocks, hC⟩ := C1
  refine va_calli (va_runS (As := [.ref b, .int 0]) (rest := rest) ⟨hx, hb, hml, hown, hts⟩ (c_L_cell l b L xs H) (va_cwS 2 hts (gS k_118 k_116 k_117 k_0) rfl rfl rfl (by decide +kernel) ⟨Nat.le_of_ble_eq_true rfl, Nat.le_of_ble_eq_true rfl⟩) ⟨fun a U g mk h => ?_, fun U hU hW => ?_⟩ rfl rfl hs rfl (lv_room hr) hdg hf) hm.2.2 (fun q h1 h2 => Nat.le_trans hm.2.2.1 h2) (fun q h => Nat.le_trans hm.2.2.1 h) (fun r u t H1 locs1 ht hvm hp hB hz hk hS => ?_)
  · obtain ⟨h1, h2, h3, h4⟩ := h
    exact ⟨h1, h2, va_X.moved (u := U) (U := U.calling g mk a) (Vm.Alike.refl U.vm) h3, h4⟩
  · exact ⟨rfl, hU, va_X.moved hW.alike (hX.kept (hm.2.2.2.1 b hbl (Nat.not_le.mpr hbl))), Nat.lt_of_lt_of_le hbl hm.2.2.1, hL⟩
  · rw [show r = lw_v L xs from hp]
    exact kk H1 locs1 ⟨⟨fun r e h => (hm.1.1 r e h).kept (hk _ (hm.1.1 r e h).lt (Nat.not_le.mpr (hm.1.1 r e h).lt)), hm.1.2⟩, hm.2.1, hS⟩
theorem Kp_start (seed : Int32) : Kp 0 (eI0 seed, eJ0, eF0, (fun _ => 0), 0, 0) (mA0, mB0, mS0) seed.toInt64 := by
  refine ⟨⟨rfl, rfl, rfl, rfl, rfl, 4, by decide, by decide, rfl⟩, ⟨fun k hk => ?_, fun k hk => ?_⟩, fun i hi => ⟨?_, ⟨0, by decide, ?_, fun k h => absurd h (Nat.not_lt_zero _)⟩, ⟨?_, ?_⟩, ⟨⟨1, by decide, ?_⟩, ⟨1, by decide, ?_⟩⟩, fun k hk => ?_⟩, ⟨rfl, by decide, fun i h => absurd h (Nat.not_lt_zero _)⟩, fun i _ hi => ⟨?_, ?_, ?_, ?_, ?_, ?_, ?_, fun k hk => ?_⟩, 0, (fun _ => 0), by decide, rfl, rfl, Nat.le_refl _, fun o h => absurd h (Nat.not_lt_zero _), rfl⟩
  · simp only [mB0, eI0, hk]; rfl
  · simp only [mB0, eJ0, hk]; rfl
  · simp only [mA0, eI0]; rfl
  · simp only [eI0]; rfl
  · simp only [mB0, eI0, hi]; rfl
  · simp only [mB0, eI0, hi]; rfl
  · simp only [eI0]; rfl
  · simp only [eI0]; rfl
  · simp only [mA0, eF0]; rfl
  · simp only [mB0]; rfl
  · simp only [mA0]; rfl
  · simp only [mA0]; rfl
  · simp only [mA0]; rfl
  · simp only [mA0]; rfl
  · simp only [mA0]; rfl
  · simp only [mA0, hi]; rfl
  · simp only [mA0]; rfl
theorem gE_g {dA : Nat → ClassId} {ad : Nat → Nat} {I : Nat → Nat → Int32} {J : Nat → Nat → Int64} {F : Nat → Nat → Nat → Int32} {si : Nat → Nat} {tc oc : Nat} {G0 G1 : mG} (h : ∀ r, 1000 ≤ r → G0 r = G1 r) : gE dA ad I J F si tc oc G0 = gE dA ad I J F si tc oc G1 := by
  funext r
  by_cases q : 1000 ≤ r
  · rw [gE_out q, gE_out q, h r q]
  · unfold gE
    rw [if_pos (show r < 1000 by omega), if_pos (show r < 1000 by omega)]
theorem gM_g {dA : Nat → ClassId} {ad : Nat → Nat} {A : Nat → Nat → Int32} {B : Nat → Nat → Int64} {S : Nat → Int32} {sd : Int64} {G0 G1 : mG} (h : ∀ r, r ≠ 1000 → G0 r = G1 r) : gM dA ad A B S sd G0 = gM dA ad A B S sd G1 := by
  funext r
  by_cases q : r = 1000
  · rw [q]
    rfl
  · unfold gM
    rw [h r q]
theorem gM_ad2 {dA : Nat → ClassId} {ad ad1 : Nat → Nat} {A : Nat → Nat → Int32} {B : Nat → Nat → Int64} {S : Nat → Int32} {sd : Int64} {X : mG} (h : ∀ k, k ≠ 2000 → ad1 k = ad k) : gM dA ad A B S sd X = gM dA ad1 A B S sd X := by
  unfold gM
  rw [h 1003 (by decide), h 1004 (by decide), h 1005 (by decide), h 1006 (by decide), h 1007 (by decide), h 1008 (by decide), h 1009 (by decide), h 1010 (by decide), h 1011 (by decide), h 1012 (by decide), h 1013 (by decide), h 1014 (by decide), h 1015 (by decide), h 1016 (by decide), h 1021 (by decide), h 1022 (by decide), h 1023 (by decide), h 1024 (by decide), h 1025 (by decide)]
theorem gO_new {dA : Nat → ClassId} {f : Nat → Int64} : va_up (fun _ => none) 2000 (some (.inl (dA 1, 1, .inr (.inl f)))) = gO dA f := by
  funext r
  by_cases h : r = 2000
  · rw [h, va_up_self, gO_at]
  · rw [va_up_ne _ _ h]
    unfold gO
    rw [if_neg h]
theorem gE_ad0 {dA : Nat → ClassId} {ad ad1 : Nat → Nat} {I : Nat → Nat → Int32} {J : Nat → Nat → Int64} {F : Nat → Nat → Nat → Int32} {si : Nat → Nat} {G0 : mG} (h : ∀ x, x < 1000 → ad1 x = ad x) : gE dA ad I J F si 0 0 G0 = gE dA ad1 I J F si 0 0 G0 :=
  (gE_ad (fun x hx => h x (by omega)) (fun i hi => absurd hi (Nat.not_lt_zero _)) (fun i hi => absurd hi (Nat.not_lt_zero _)) (fun i hi => absurd hi (Nat.not_lt_zero _)) (fun i hi => absurd hi (Nat.not_lt_zero _)) (fun i hi => absurd hi (Nat.not_lt_zero _))).symm
set_option maxHeartbeats 8000000 in
set_option maxRecDepth 100000 in
theorem whole_start {p : Program} {e : Env} {s : State} {m : MethodId} {below : List Frame} {meth : Method} {c : Code} (l : Launch) (hlt : l.stackTraces = false) {b L : Nat} {xs : Nat → Int32} (hL : L ≤ 2561) (C0 : lw_At p s m meth c b L xs) : W p l e room_1 s m #[Value.ref b] below meth c s.heap [] 0 0 (lw_Z below #[Value.ref b] s) (entryFrame m ([Value.ref b] : List Value).toArray 8) := by
  obtain ⟨hx, hb, hr, hml, hown, hts0, hX, hbl, hlocks, hgv⟩ := C0
  obtain ⟨D, dA, hC⟩ := lw_mC hts0 hgv
  have hT : ∀ w ∈ mBig, w.before #[Value.ref b] s = true := fun w h => hts0 w (List.mem_filter.mp h).1
  have hts : ∀ w ∈ Cond.initialized "EdgeWear" :: mBig, w.before #[Value.ref b] s = true := List.forall_mem_cons.mpr ⟨hT _ k_1, hT⟩
  have hown : s.vm.findClass "EdgeWearLaw" = some m.cls := hown
  have C1 : lwC p s m meth c D dA b L xs := ⟨⟨hx, hb, hr, hml, hown⟩, hts, ⟨hX, hbl, hL⟩, hlocks, hC⟩
  have hA : ∀ q : Nat, s.heap.size ≤ q → (fun q => s.heap.size ≤ q) q := fun q h => h
  have hm : mS D mCl (fun q => s.heap.size ≤ q) s.heap (fun _ => 0) (fun _ => none) s.heap [] := ⟨⟨fun r e h => (nomatch h), fun r r' e e' h => (nomatch h)⟩, fun r e h => (nomatch h), va_S.rf⟩
  have hl := lv_entry ([.ref b]) (n := 8) (Nat.le_of_ble_eq_true rfl)
  rw [lg_entry_eq]
  generalize (lg_sl ([.ref b]) ++ List.replicate (8 - (lg_sl ([.ref b])).length) Slot.unset).toArray = ls at hl ⊢
  have hl : lv_has ls 8 [(0, .ref b)] := hl
  refine m_new (ci := 5) (fs := [.int 0, .null, .null, .null, .null, .null, .int 0, .int 0]) (C := R_E) (T := T_E) (N := 8) hx hb hT in_E t_E tok_E hown (hT _ k_16) (hT _ k_17) (hT _ k_1) hC.1 hm hA 0 rfl rfl (fun j hj => by rcases (show j = 0 ∨ j = 1 ∨ j = 2 ∨ j = 3 ∨ j = 4 ∨ j = 5 ∨ j = 6 ∨ j = 7 by omega) with rfl | rfl | rfl | rfl | rfl | rfl | rfl | rfl <;> rfl) (Nat.le_of_ble_eq_true rfl) (Nat.le_of_ble_eq_true rfl) d_L_law_0 (fun q0 H hm => ?_)
  obtain ⟨a0, ea0⟩ : ∃ z : Nat → Nat, z = va_up (fun _ => 0) 0 q0 := ⟨_, rfl⟩
  obtain ⟨g0, eg0⟩ : ∃ z : mG, z = va_up (fun _ => none) 0 (some (.inr (5, [.int 0, .null, .null, .null, .null, .null, .int 0, .int 0]))) := ⟨_, rfl⟩
  rw [← ea0, ← eg0] at hm
  have z0 : q0 = a0 0 := by rw [ea0, va_up_self]
  refine lv_dup hx hb d_L_law_3 rfl ?_
  refine lv_aload_n hx hb d_L_law_4 rfl (lv_at hl 0 rfl) ?_
  refine lv_iconst (v := 0) hx hb d_L_law_5 (by decide) ?_
  refine lw_cell C1 hm hl.1 (Nat.le_of_ble_eq_true rfl) d_L_law_6 ⟨Nat.le_of_ble_eq_true rfl, Nat.le_of_ble_eq_true rfl⟩ (fun H locs hm => ?_)
  refine m_callv (m_runI (As := [.int (lw_v L xs)]) (rest := [.ref q0]) ⟨hx, hb, hml, hown, hts⟩ (c_E_init l D dA a0 g0 H.size q0 (lw_v L xs) z0 (fun r _ h => by rw [eg0, va_up_ne _ _ h]) (by rw [eg0, va_up_self])) (cwI 1 hts (gI k_20) rfl rfl rfl (hT _ k_1) (hT _ k_18) (hT _ k_19) rfl (by decide +kernel) ⟨Nat.le_of_ble_eq_true rfl, Nat.le_of_ble_eq_true rfl⟩) hm hA hC rfl hl.1 rfl (Nat.le_of_ble_eq_true rfl) d_L_law_9 ⟨Nat.le_of_ble_eq_true rfl, Nat.le_of_ble_eq_true rfl⟩) hm hA (fun ad9 G9 H locs w hm => ?_)
  obtain ⟨a1, had1, had1z, hu⟩ := w
  obtain ⟨ea9, eg9⟩ := Prod.mk.inj hu
  have hm : mS D mCl (fun q => s.heap.size ≤ q) s.heap a1 (gE dA a1 (eI0 (lw_v L xs)) eJ0 eF0 (fun _ => 0) 0 0 (fun _ => none)) H locs := by
    rw [ea9, eg9, gE_g (G1 := fun _ => none) (fun r h => by rw [eg0, va_up_ne _ _ (by omega)])] at hm
    exact hm
  have z1 : q0 = a1 0 := z0.trans had1z.symm
  refine lv_astore_n (lv' := [(1, .ref q0), (0, .ref b)]) hx hb d_L_law_12 rfl hl (by decide) rfl (fun ls hl => ?_)
  refine m_new (ci := 6) (fs := [.int 0, .long 0, .int 0, .null, .null, .null, .null, .null, .null, .null, .null, .null, .null, .null, .null, .null, .null, .int 0, .int 0, .int 0, .int 0, .null, .null, .null, .null, .null, .int 0, .int 0]) (C := R_M) (T := T_M) (N := 28) hx hb hT in_M t_M tok_M hown (hT _ k_583) (hT _ k_584) (hT _ k_4) hC.1 hm hA 1000 (gE_out (by decide)) rfl (fun j hj => by rcases (show j = 0 ∨ j = 1 ∨ j = 2 ∨ j = 3 ∨ j = 4 ∨ j = 5 ∨ j = 6 ∨ j = 7 ∨ j = 8 ∨ j = 9 ∨ j = 10 ∨ j = 11 ∨ j = 12 ∨ j = 13 ∨ j = 14 ∨ j = 15 ∨ j = 16 ∨ j = 17 ∨ j = 18 ∨ j = 19 ∨ j = 20 ∨ j = 21 ∨ j = 22 ∨ j = 23 ∨ j = 24 ∨ j = 25 ∨ j = 26 ∨ j = 27 by omega) with rfl | rfl | rfl | rfl | rfl | rfl | rfl | rfl | rfl | rfl | rfl | rfl | rfl | rfl | rfl | rfl | rfl | rfl | rfl | rfl | rfl | rfl | rfl | rfl | rfl | rfl | rfl | rfl <;> rfl) (Nat.le_of_ble_eq_true rfl) (Nat.le_of_ble_eq_true rfl) d_L_law_13 (fun q1 H hm => ?_)
  obtain ⟨a2, ea2⟩ : ∃ z : Nat → Nat, z = va_up a1 1000 q1 := ⟨_, rfl⟩
  obtain ⟨g2, eg2⟩ : ∃ z : mG, z = va_up (gE dA a1 (eI0 (lw_v L xs)) eJ0 eF0 (fun _ => 0) 0 0 (fun _ => none)) 1000 (some (.inr (6, [.int 0, .long 0, .int 0, .null, .null, .null, .null, .null, .null, .null, .null, .null, .null, .null, .null, .null, .null, .int 0, .int 0, .int 0, .int 0, .null, .null, .null, .null, .null, .int 0, .int 0]))) := ⟨_, rfl⟩
  rw [← ea2, ← eg2] at hm
  have z2 : q1 = a2 1000 := by rw [ea2, va_up_self]
  refine lv_dup hx hb d_L_law_16 rfl ?_
  refine lv_aload_n hx hb d_L_law_17 rfl (lv_at hl 1 rfl) ?_
  refine lv_iconst (v := 0) hx hb d_L_law_18 (by decide) ?_
  refine lw_cell C1 hm hl.1 (Nat.le_of_ble_eq_true rfl) d_L_law_19 ⟨Nat.le_of_ble_eq_true rfl, Nat.le_of_ble_eq_true rfl⟩ (fun H locs hm => ?_)
  refine m_callv (m_runI (As := [.int (lw_v L xs)]) (rest := [.ref q1]) ⟨hx, hb, hml, hown, hts⟩ (c_M_init l D dA a2 g2 H.size q1 (lw_v L xs) z2 (fun r h1 h2 => by rw [eg2, va_up_ne _ _ (by omega), gE_out (by omega)]) (by rw [eg2, va_up_self])) (cwI 1 hts (gI k_587) rfl rfl rfl (hT _ k_4) (hT _ k_585) (hT _ k_586) rfl (by decide +kernel) ⟨Nat.le_of_ble_eq_true rfl, Nat.le_of_ble_eq_true rfl⟩) hm hA hC rfl hl.1 rfl (Nat.le_of_ble_eq_true rfl) d_L_law_22 ⟨Nat.le_of_ble_eq_true rfl, Nat.le_of_ble_eq_true rfl⟩) hm hA (fun ad9 G9 H locs w hm => ?_)
  obtain ⟨a3, had3, had3z, hu8⟩ := w
  obtain ⟨ea8, eg8⟩ := Prod.mk.inj hu8
  have hk3 : ∀ x, x < 1000 → a3 x = a1 x := fun x h => (had3 x (Or.inl h)).trans (by rw [ea2, va_up_ne _ _ (by omega)])
  have hm : mS D mCl (fun q => s.heap.size ≤ q) s.heap a3 (gM dA a3 mA0 mB0 mS0 (lw_v L xs).toInt64 (gE dA a3 (eI0 (lw_v L xs)) eJ0 eF0 (fun _ => 0) 0 0 (fun _ => none))) H locs := by
    rw [ea8, eg8, gM_g (G1 := gE dA a1 (eI0 (lw_v L xs)) eJ0 eF0 (fun _ => 0) 0 0 (fun _ => none)) (fun r h => by rw [eg2, va_up_ne _ _ h]), gE_ad0 hk3] at hm
    exact hm
  have z3 : q1 = a3 1000 := z2.trans had3z.symm
  have z4 : q0 = a3 0 := z1.trans (hk3 0 (by decide)).symm
  refine lv_astore_n (lv' := [(2, .ref q1), (1, .ref q0), (0, .ref b)]) hx hb d_L_law_25 rfl hl (by decide) rfl (fun ls hl => ?_)
  refine lv_iconst (v := 1) hx hb d_L_law_26 (by decide) ?_
  refine m_newa (atype := .long) (ty := .long) (a0 := (1, .inr (.inl (fun _ => 0)))) (cA := (dA 1)) hx hb (hT _ k_675) rfl hm hA 2000 ((gM_out (Or.inr (by decide))).trans (gE_out (by decide))) (show _ from (hC.1.2 1 _ rfl).2) (fun _ => rfl) (by decide) (by decide) (by decide) (Nat.le_of_ble_eq_true rfl) (Nat.le_of_ble_eq_true rfl) d_L_law_27 (fun q2 H hm => ?_)
  obtain ⟨a4, ea4⟩ : ∃ z : Nat → Nat, z = va_up a3 2000 q2 := ⟨_, rfl⟩
  have hk4 : ∀ x, x ≠ 2000 → a4 x = a3 x := fun x h => by rw [ea4, va_up_ne _ _ h]
  have z5 : q2 = a4 2000 := by rw [ea4, va_up_self]
  have hm : mS D mCl (fun q => s.heap.size ≤ q) s.heap a4 (gM dA a4 mA0 mB0 mS0 (lw_v L xs).toInt64 (gE dA a4 (eI0 (lw_v L xs)) eJ0 eF0 (fun _ => 0) 0 0 (gO dA (fun _ => 0)))) H locs := by
    rw [← ea4, gM_up 2000 (by decide), gE_up 2000 (by decide), gO_new, gM_ad2 hk4, gE_ad0 (fun x h => hk4 x (by omega))] at hm
    exact hm
  refine lv_astore_n (lv' := [(3, .ref q2), (2, .ref q1), (1, .ref q0), (0, .ref b)]) hx hb d_L_law_29 rfl hl (by decide) rfl (fun ls hl => ?_)
  refine lv_iconst (v := nI 1) hx hb d_L_law_30 (by decide) ?_
  refine lv_istore (lv' := [(4, .int (nI 1)), (3, .ref q2), (2, .ref q1), (1, .ref q0), (0, .ref b)]) hx hb d_L_law_31 hl (by decide) rfl (fun ls hl => ?_)
  have hl : lv_has ls 8 (lwL b a4 1) := by
    have h := lv_sub hl [4, 3, 2, 1, 0] rfl
    rw [z4, z3, z5, ← hk4 0 (by decide), ← hk4 1000 (by decide)] at h
    exact h
  refine W.widen (k := 36 + 4 * 0) (n := 1300 + 42 * 0) (Nat.le_of_ble_eq_true rfl) (Nat.le_of_ble_eq_true rfl) ?_
  exact law_loop hlt C1 512 0 1 rfl rfl a4 (eI0 (lw_v L xs), eJ0, eF0, (fun _ => 0), 0, 0) (mA0, mB0, mS0) (fun _ => 0) ls H locs (Kp_start (lw_v L xs)) hl hm
