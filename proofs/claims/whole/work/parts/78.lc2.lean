set_option maxHeartbeats 4000000 in
set_option maxRecDepth 100000 in
theorem lc_about {p : Program} {l : Launch} {e : Env} {s : State} {m : MethodId} {b : Nat} {below : List Frame} {meth : Method} {c : Code} {D : va_G} {dA : Nat → ClassId} {Q : State → Prop} {sd : Int64} {L : Nat} {xs : Nat → Int32} {n i : Nat} (hlt : l.stackTraces = false) (C0 : lwC p s m meth c D dA b L xs) (hn : n < 512) (hi : i + 5 ≤ L) (kk : lwK p l e s m b below meth c D dA Q sd 1511 (n + 1) i) : lwK p l e s m b below meth c D dA Q sd 538 n i := by
  obtain ⟨⟨hx, hb, hr, hml, hown⟩, hts, ⟨hX, hbl, hL⟩, hlocks, hC⟩ := C0
  have hT : ∀ w ∈ mBig, w.before _ s = true := fun w h => hts w (List.mem_cons_of_mem _ h)
  have hA : ∀ q : Nat, s.heap.size ≤ q → (fun q => s.heap.size ≤ q) q := fun q h => h
  intro ad x y f ls H locs hK hl hm
  obtain ⟨I, J, F, si, tc, oc⟩ := x
  obtain ⟨A, B, S⟩ := y
  replace hl : lv_has ls 8 [(0, .ref b), (1, .ref (ad 0)), (2, .ref (ad 1000)), (3, .ref (ad 2000)), (4, .int (nI i))] := hl
  replace hm : mS D mCl (fun q => s.heap.size ≤ q) s.heap ad (gM dA ad A B S sd (gE dA ad I J F si tc oc (gO dA f))) H locs := hm
  refine lv_aload_n hx hb d_L_law_538 rfl (lv_at hl 1 rfl) ?_
  refine lw_arg hx hb hX hbl hL hm (lv_at hl 0 rfl) (lv_at hl 4 rfl) 1 (by decide) hi d_L_law_539 d_L_law_540 d_L_law_542 (by decide) d_L_law_543 d_L_law_544 ?_
  refine lw_arg hx hb hX hbl hL hm (lv_at hl 0 rfl) (lv_at hl 4 rfl) 2 (by decide) hi d_L_law_545 d_L_law_546 d_L_law_548 (by decide) d_L_law_549 d_L_law_550 ?_
  refine lv_aload_n hx hb d_L_law_551 rfl (lv_at hl 3 rfl) ?_
  refine m_calli (m_runSW (As := [.ref (ad 0), .int (xs (i + 1)), .int (xs (i + 2)), .ref (ad 2000)]) (rest := []) ⟨hx, hb, hml, hown, hts⟩ (c_L_about l hlt D dA ad (gM dA ad A B S sd (gE dA ad I J F si tc oc (gO dA f))) H.size I J F si tc oc (gM dA ad A B S sd (gO dA f)) gEM.symm hK.ht hK.hs (xs (i + 1)) (xs (i + 2)) hK.ho f ((gM_out (Or.inr (by decide))).trans gO_at)) (vx_cwSW 4 hts (gS k_353 k_351 k_352 k_0) rfl rfl rfl (by decide +kernel) ⟨Nat.le_of_ble_eq_true rfl, Nat.le_of_ble_eq_true rfl⟩) hm hA hC rfl hl.1 rfl (Nat.le_of_ble_eq_true rfl) d_L_law_552 ⟨by show _ ≤ 601024; omega, by show _ ≤ 7293000; omega⟩) hm hA (fun r_1 ad_4 G_3 H locs w_2 hm => ?_)
  obtain ⟨ad1, x1, f1, had, hu9, hrel⟩ := w_2
  obtain ⟨ea9, eg9⟩ := Prod.mk.inj hu9
  have hm : mS D mCl (fun q => s.heap.size ≤ q) s.heap ad1 (gM dA ad1 A B S sd (gEx dA ad1 x1 (gO dA f1))) H locs := by
    rw [ea9, eg9, law_w1 (fun k hk => had k (Or.inr hk))] at hm
    exact hm
  have hl : lv_has ls 8 [(0, .ref b), (1, .ref (ad1 0)), (2, .ref (ad1 1000)), (3, .ref (ad1 2000)), (4, .int (nI i))] := by
    rw [had 0 (Or.inl rfl), had 1000 (Or.inr (by decide)), had 2000 (Or.inr (by decide))]
    exact hl
  refine lv_istore (lv' := [(5, .int r_1), (0, .ref b), (1, .ref (ad1 0)), (2, .ref (ad1 1000)), (3, .ref (ad1 2000)), (4, .int (nI i))]) hx hb d_L_law_555 hl (by decide) rfl (fun ls hl => ?_)
  refine lv_aload_n hx hb d_L_law_557 rfl (lv_at hl 3 rfl) ?_
  refine lw_arg hx hb hX hbl hL hm (lv_at hl 1 rfl) (lv_at hl 5 rfl) 1 (by decide) hi d_L_law_558 d_L_law_559 d_L_law_561 (by decide) d_L_law_562 d_L_law_563 ?_
  refine lw_arg hx hb hX hbl hL hm (lv_at hl 1 rfl) (lv_at hl 5 rfl) 2 (by decide) hi d_L_law_564 d_L_law_565 d_L_law_567 (by decide) d_L_law_568 d_L_law_569 ?_
  refine m_calll (m_runV (As := [.int (xs (i + 1)), .int (xs (i + 2))]) (rest := []) ⟨hx, hb, hml, hown, hts⟩ (c_M_about l D dA ad1 (gM dA ad1 A B S sd (gEx dA ad1 x1 (gO dA f1))) H.size A B S sd (gEx dA ad1 x1 (gO dA f1)) rfl tc hK.hS hK.ht si hK.hs2 (xs (i + 1)) (xs (i + 2))) (cwV 2 hts (gV k_721 k_718 k_719 k_720 k_4) rfl rfl rfl (by decide +kernel) ⟨Nat.le_of_ble_eq_true rfl, Nat.le_of_ble_eq_true rfl⟩) hm hA hC 1000 rfl gM_o rfl rfl rfl hl.1 rfl (Nat.le_of_ble_eq_true rfl) d_L_law_570 ⟨by show _ ≤ 601024; omega, by show _ ≤ 7293000; omega⟩) hm hA (fun r_5 ad_8 G_7 H locs w_6 hm => ?_)
  obtain ⟨y1, hu8, hrM⟩ := kM_about w_6
  obtain ⟨ea8, eg8⟩ := Prod.mk.inj hu8
  have hm : mS D mCl (fun q => s.heap.size ≤ q) s.heap ad1 (gM dA ad1 y1.1 y1.2.1 y1.2.2 sd (gEx dA ad1 x1 (gO dA f1))) H locs := by
    rw [ea8, eg8] at hm
    exact hm
  obtain ⟨hk9, ho9, hK9⟩ := cp_about hK (by omega) hrel hrM
  refine lv_lstore (lv' := [(6, .long r_5), (5, .int r_1), (0, .ref b), (1, .ref (ad1 0)), (2, .ref (ad1 1000)), (3, .ref (ad1 2000)), (4, .int (nI i))]) hx hb d_L_law_573 hl (by decide) rfl (fun ls hl => ?_)
  refine lv_aload_n hx hb d_L_law_575 rfl (lv_at hl 4 rfl) ?_
  refine m_roi (m_runV (As := []) (rest := []) ⟨hx, hb, hml, hown, hts⟩ (c_M_thrown l D dA ad1 (gM dA ad1 y1.1 y1.2.1 y1.2.2 sd (gEx dA ad1 x1 (gO dA f1))) H.size y1.1 y1.2.1 y1.2.2 sd (gEx dA ad1 x1 (gO dA f1)) rfl) (cwV 0 hts (gV k_680 k_677 k_678 k_679 k_4) rfl rfl rfl (by decide +kernel) ⟨Nat.le_of_ble_eq_true rfl, Nat.le_of_ble_eq_true rfl⟩) hm hA hC 1000 rfl gM_o rfl rfl rfl hl.1 rfl (Nat.le_of_ble_eq_true rfl) d_L_law_576 ⟨by show _ ≤ 601024; omega, by show _ ≤ 7293000; omega⟩) hm hA (fun r_9 H locs w_10 hm => ?_)
  refine lv_iload hx hb d_L_law_579 (lv_at hl 1 rfl) ?_
  refine lv_icmp_eq (tgt := 586) hx hb d_L_law_581 (by decide) (fun _ => ?_) (fun c9 => absurd (w_10.trans hk9) c9)
  refine lv_iload hx hb d_L_law_586 (lv_at hl 1 rfl) ?_
  refine lv_if_ne (tgt := 602) hx hb d_L_law_588 (by decide) (fun _ => ?_) (fun c0 => ?_)
  · refine lv_goto (tgt := 1511) hx hb d_L_law_602 (by decide) ?_
    refine W.widen (k := 36 + 4 * (n + 1)) (n := 1300 + 42 * (n + 1)) (by omega) (by omega) ?_
    exact kk ad1 x1 y1 f1 ls H locs hK9 (lv_sub hl [2, 3, 4, 5, 6] rfl) hm
  · refine lv_aload_n hx hb d_L_law_591 rfl (lv_at hl 5 rfl) ?_
    refine lv_iconst (v := 0) hx hb d_L_law_592 (by decide) ?_
    refine m_lald (v := f1 0) hx hb hC.1 hm 2000 rfl 1 ((gM_out (Or.inr (by decide))).trans ((gE_out (by decide)).trans gO_at)) rfl (vpc _ _ (by decide)) rfl d_L_law_593 ?_
    refine lv_lload hx hb d_L_law_594 (lv_at hl 0 rfl) ?_
    refine W.lcmp hx hb d_L_law_596 ?_
    refine lv_if_eq (tgt := 602) hx hb d_L_law_597 (by decide) (fun _ => ?_) (fun c9 => absurd ((lg_eq _ _).mpr (ho9 c0)) c9)
    refine lv_goto (tgt := 1511) hx hb d_L_law_602 (by decide) ?_
    refine W.widen (k := 36 + 4 * (n + 1)) (n := 1300 + 42 * (n + 1)) (by omega) (by omega) ?_
    exact kk ad1 x1 y1 f1 ls H locs hK9 (lv_sub hl [2, 3, 4, 5, 6] rfl) hm
set_option maxHeartbeats 4000000 in
set_option maxRecDepth 100000 in
theorem lc_spare {p : Program} {l : Launch} {e : Env} {s : State} {m : MethodId} {b : Nat} {below : List Frame} {meth : Method} {c : Code} {D : va_G} {dA : Nat → ClassId} {Q : State → Prop} {sd : Int64} {L : Nat} {xs : Nat → Int32} {n i : Nat} (hlt : l.stackTraces = false) (C0 : lwC p s m meth c D dA b L xs) (hn : n < 512) (hi : i + 5 ≤ L) (kk : lwK p l e s m b below meth c D dA Q sd 1511 (n + 1) i) : lwK p l e s m b below meth c D dA Q sd 605 n i := by
  obtain ⟨⟨hx, hb, hr, hml, hown⟩, hts, ⟨hX, hbl, hL⟩, hlocks, hC⟩ := C0
  have hT : ∀ w ∈ mBig, w.before _ s = true := fun w h => hts w (List.mem_cons_of_mem _ h)
  have hA : ∀ q : Nat, s.heap.size ≤ q → (fun q => s.heap.size ≤ q) q := fun q h => h
  intro ad x y f ls H locs hK hl hm
  obtain ⟨I, J, F, si, tc, oc⟩ := x
  obtain ⟨A, B, S⟩ := y
  replace hl : lv_has ls 8 [(0, .ref b), (1, .ref (ad 0)), (2, .ref (ad 1000)), (3, .ref (ad 2000)), (4, .int (nI i))] := hl
  replace hm : mS D mCl (fun q => s.heap.size ≤ q) s.heap ad (gM dA ad A B S sd (gE dA ad I J F si tc oc (gO dA f))) H locs := hm
  refine lv_aload_n hx hb d_L_law_605 rfl (lv_at hl 1 rfl) ?_
  refine lw_arg hx hb hX hbl hL hm (lv_at hl 0 rfl) (lv_at hl 4 rfl) 1 (by decide) hi d_L_law_606 d_L_law_607 d_L_law_609 (by decide) d_L_law_610 d_L_law_611 ?_
  refine lv_aload_n hx hb d_L_law_612 rfl (lv_at hl 3 rfl) ?_
  refine m_calli (m_runSW (As := [.ref (ad 0), .int (xs (i + 1)), .ref (ad 2000)]) (rest := []) ⟨hx, hb, hml, hown, hts⟩ (c_L_spare l hlt D dA ad (gM dA ad A B S sd (gE dA ad I J F si tc oc (gO dA f))) H.size I J F si tc oc (gM dA ad A B S sd (gO dA f)) gEM.symm hK.ht hK.hs (xs (i + 1)) hK.ho f ((gM_out (Or.inr (by decide))).trans gO_at)) (vx_cwSW 3 hts (gS k_366 k_364 k_365 k_0) rfl rfl rfl (by decide +kernel) ⟨Nat.le_of_ble_eq_true rfl, Nat.le_of_ble_eq_true rfl⟩) hm hA hC rfl hl.1 rfl (Nat.le_of_ble_eq_true rfl) d_L_law_613 ⟨by show _ ≤ 601024; omega, by show _ ≤ 7293000; omega⟩) hm hA (fun r_1 ad_4 G_3 H locs w_2 hm => ?_)
  obtain ⟨ad1, x1, f1, had, hu9, hrel⟩ := w_2
  obtain ⟨ea9, eg9⟩ := Prod.mk.inj hu9
  have hm : mS D mCl (fun q => s.heap.size ≤ q) s.heap ad1 (gM dA ad1 A B S sd (gEx dA ad1 x1 (gO dA f1))) H locs := by
    rw [ea9, eg9, law_w1 (fun k hk => had k (Or.inr hk))] at hm
    exact hm
  have hl : lv_has ls 8 [(0, .ref b), (1, .ref (ad1 0)), (2, .ref (ad1 1000)), (3, .ref (ad1 2000)), (4, .int (nI i))] := by
    rw [had 0 (Or.inl rfl), had 1000 (Or.inr (by decide)), had 2000 (Or.inr (by decide))]
    exact hl
  refine lv_istore (lv' := [(5, .int r_1), (0, .ref b), (1, .ref (ad1 0)), (2, .ref (ad1 1000)), (3, .ref (ad1 2000)), (4, .int (nI i))]) hx hb d_L_law_616 hl (by decide) rfl (fun ls hl => ?_)
  refine lv_aload_n hx hb d_L_law_618 rfl (lv_at hl 3 rfl) ?_
  refine lw_arg hx hb hX hbl hL hm (lv_at hl 1 rfl) (lv_at hl 5 rfl) 1 (by decide) hi d_L_law_619 d_L_law_620 d_L_law_622 (by decide) d_L_law_623 d_L_law_624 ?_
  refine m_calli (m_runV (As := [.int (xs (i + 1))]) (rest := []) ⟨hx, hb, hml, hown, hts⟩ (c_M_spare l D dA ad1 (gM dA ad1 A B S sd (gEx dA ad1 x1 (gO dA f1))) H.size A B S sd (gEx dA ad1 x1 (gO dA f1)) rfl tc hK.hS hK.ht (xs (i + 1))) (cwV 1 hts (gV k_726 k_723 k_724 k_725 k_4) rfl rfl rfl (by decide +kernel) ⟨Nat.le_of_ble_eq_true rfl, Nat.le_of_ble_eq_true rfl⟩) hm hA hC 1000 rfl gM_o rfl rfl rfl hl.1 rfl (Nat.le_of_ble_eq_true rfl) d_L_law_625 ⟨by show _ ≤ 601024; omega, by show _ ≤ 7293000; omega⟩) hm hA (fun r_5 ad_8 G_7 H locs w_6 hm => ?_)
  obtain ⟨y1, hu8, hrM⟩ := kM_spare w_6
  obtain ⟨ea8, eg8⟩ := Prod.mk.inj hu8
  have hm : mS D mCl (fun q => s.heap.size ≤ q) s.heap ad1 (gM dA ad1 y1.1 y1.2.1 y1.2.2 sd (gEx dA ad1 x1 (gO dA f1))) H locs := by
    rw [ea8, eg8] at hm
    exact hm
  obtain ⟨hk9, ho9, hK9⟩ := cp_spare hK hrel hrM
  refine lv_istore (lv' := [(6, .int r_5), (5, .int r_1), (0, .ref b), (1, .ref (ad1 0)), (2, .ref (ad1 1000)), (3, .ref (ad1 2000)), (4, .int (nI i))]) hx hb d_L_law_628 hl (by decide) rfl (fun ls hl => ?_)
  refine lv_aload_n hx hb d_L_law_630 rfl (lv_at hl 4 rfl) ?_
  refine m_roi (m_runV (As := []) (rest := []) ⟨hx, hb, hml, hown, hts⟩ (c_M_thrown l D dA ad1 (gM dA ad1 y1.1 y1.2.1 y1.2.2 sd (gEx dA ad1 x1 (gO dA f1))) H.size y1.1 y1.2.1 y1.2.2 sd (gEx dA ad1 x1 (gO dA f1)) rfl) (cwV 0 hts (gV k_680 k_677 k_678 k_679 k_4) rfl rfl rfl (by decide +kernel) ⟨Nat.le_of_ble_eq_true rfl, Nat.le_of_ble_eq_true rfl⟩) hm hA hC 1000 rfl gM_o rfl rfl rfl hl.1 rfl (Nat.le_of_ble_eq_true rfl) d_L_law_631 ⟨by show _ ≤ 601024; omega, by show _ ≤ 7293000; omega⟩) hm hA (fun r_9 H locs w_10 hm => ?_)
  refine lv_iload hx hb d_L_law_634 (lv_at hl 1 rfl) ?_
  refine lv_icmp_eq (tgt := 641) hx hb d_L_law_636 (by decide) (fun _ => ?_) (fun c9 => absurd (w_10.trans hk9) c9)
  refine lv_iload hx hb d_L_law_641 (lv_at hl 1 rfl) ?_
  refine lv_if_ne (tgt := 658) hx hb d_L_law_643 (by decide) (fun _ => ?_) (fun c0 => ?_)
  · refine lv_goto (tgt := 1511) hx hb d_L_law_658 (by decide) ?_
    refine W.widen (k := 36 + 4 * (n + 1)) (n := 1300 + 42 * (n + 1)) (by omega) (by omega) ?_
    exact kk ad1 x1 y1 f1 ls H locs hK9 (lv_sub hl [2, 3, 4, 5, 6] rfl) hm
  · refine lv_aload_n hx hb d_L_law_646 rfl (lv_at hl 5 rfl) ?_
    refine lv_iconst (v := 0) hx hb d_L_law_647 (by decide) ?_
    refine m_lald (v := f1 0) hx hb hC.1 hm 2000 rfl 1 ((gM_out (Or.inr (by decide))).trans ((gE_out (by decide)).trans gO_at)) rfl (vpc _ _ (by decide)) rfl d_L_law_648 ?_
    refine lv_iload hx hb d_L_law_649 (lv_at hl 0 rfl) ?_
    refine lv_i2l hx hb d_L_law_651 rfl ?_
    refine lv_topl (fun x_11 ex_11 => ?_)
    refine W.lcmp hx hb d_L_law_652 ?_
    refine lv_if_eq (tgt := 658) hx hb d_L_law_653 (by decide) (fun _ => ?_) (fun c9 => absurd ((lg_eq _ _).mpr ((ho9 c0).trans ex_11.symm)) c9)
    refine lv_goto (tgt := 1511) hx hb d_L_law_658 (by decide) ?_
    refine W.widen (k := 36 + 4 * (n + 1)) (n := 1300 + 42 * (n + 1)) (by omega) (by omega) ?_
    exact kk ad1 x1 y1 f1 ls H locs hK9 (lv_sub hl [2, 3, 4, 5, 6] rfl) hm
set_option maxHeartbeats 4000000 in
set_option maxRecDepth 100000 in
theorem lc_take {p : Program} {l : Launch} {e : Env} {s : State} {m : MethodId} {b : Nat} {below : List Frame} {meth : Method} {c : Code} {D : va_G} {dA : Nat → ClassId} {Q : State → Prop} {sd : Int64} {L : Nat} {xs : Nat → Int32} {n i : Nat} (hlt : l.stackTraces = false) (C0 : lwC p s m meth c D dA b L xs) (hn : n < 512) (hi : i + 5 ≤ L) (kk : lwK p l e s m b below meth c D dA Q sd 1511 (n + 1) i) : lwK p l e s m b below meth c D dA Q sd 661 n i := by
  obtain ⟨⟨hx, hb, hr, hml, hown⟩, hts, ⟨hX, hbl, hL⟩, hlocks, hC⟩ := C0
  have hT : ∀ w ∈ mBig, w.before _ s = true := fun w h => hts w (List.mem_cons_of_mem _ h)
  have hA : ∀ q : Nat, s.heap.size ≤ q → (fun q => s.heap.size ≤ q) q := fun q h => h
  intro ad x y f ls H locs hK hl hm
  obtain ⟨I, J, F, si, tc, oc⟩ := x
  obtain ⟨A, B, S⟩ := y
  replace hl : lv_has ls 8 [(0, .ref b), (1, .ref (ad 0)), (2, .ref (ad 1000)), (3, .ref (ad 2000)), (4, .int (nI i))] := hl
  replace hm : mS D mCl (fun q => s.heap.size ≤ q) s.heap ad (gM dA ad A B S sd (gE dA ad I J F si tc oc (gO dA f))) H locs := hm
  refine lv_aload_n hx hb d_L_law_661 rfl (lv_at hl 1 rfl) ?_
  refine lw_arg hx hb hX hbl hL hm (lv_at hl 0 rfl) (lv_at hl 4 rfl) 1 (by decide) hi d_L_law_662 d_L_law_663 d_L_law_665 (by decide) d_L_law_666 d_L_law_667 ?_
  refine lv_aload_n hx hb d_L_law_668 rfl (lv_at hl 3 rfl) ?_
  refine m_calli (m_runSW (As := [.ref (ad 0), .int (xs (i + 1)), .ref (ad 2000)]) (rest := []) ⟨hx, hb, hml, hown, hts⟩ (c_L_take l hlt D dA ad (gM dA ad A B S sd (gE dA ad I J F si tc oc (gO dA f))) H.size I J F si tc oc (gM dA ad A B S sd (gO dA f)) gEM.symm hK.ht hK.hs (xs (i + 1)) hK.ho f ((gM_out (Or.inr (by decide))).trans gO_at)) (vx_cwSW 3 hts (gS k_377 k_375 k_376 k_0) rfl rfl rfl (by decide +kernel) ⟨Nat.le_of_ble_eq_true rfl, Nat.le_of_ble_eq_true rfl⟩) hm hA hC rfl hl.1 rfl (Nat.le_of_ble_eq_true rfl) d_L_law_669 ⟨by show _ ≤ 601024; omega, by show _ ≤ 7293000; omega⟩) hm hA (fun r_1 ad_4 G_3 H locs w_2 hm => ?_)
  obtain ⟨ad1, x1, f1, had, hu9, hrel⟩ := w_2
  obtain ⟨ea9, eg9⟩ := Prod.mk.inj hu9
  have hm : mS D mCl (fun q => s.heap.size ≤ q) s.heap ad1 (gM dA ad1 A B S sd (gEx dA ad1 x1 (gO dA f1))) H locs := by
    rw [ea9, eg9, law_w1 (fun k hk => had k (Or.inr hk))] at hm
    exact hm
  have hl : lv_has ls 8 [(0, .ref b), (1, .ref (ad1 0)), (2, .ref (ad1 1000)), (3, .ref (ad1 2000)), (4, .int (nI i))] := by
    rw [had 0 (Or.inl rfl), had 1000 (Or.inr (by decide)), had 2000 (Or.inr (by decide))]
    exact hl
  refine lv_istore (lv' := [(5, .int r_1), (0, .ref b), (1, .ref (ad1 0)), (2, .ref (ad1 1000)), (3, .ref (ad1 2000)), (4, .int (nI i))]) hx hb d_L_law_672 hl (by decide) rfl (fun ls hl => ?_)
  refine lv_aload_n hx hb d_L_law_674 rfl (lv_at hl 3 rfl) ?_
  refine lw_arg hx hb hX hbl hL hm (lv_at hl 1 rfl) (lv_at hl 5 rfl) 1 (by decide) hi d_L_law_675 d_L_law_676 d_L_law_678 (by decide) d_L_law_679 d_L_law_680 ?_
  refine m_calli (m_runV (As := [.int (xs (i + 1))]) (rest := []) ⟨hx, hb, hml, hown, hts⟩ (c_M_take l D dA ad1 (gM dA ad1 A B S sd (gEx dA ad1 x1 (gO dA f1))) H.size A B S sd (gEx dA ad1 x1 (gO dA f1)) rfl tc hK.hS hK.ht (xs (i + 1))) (cwV 1 hts (gV k_734 k_731 k_732 k_733 k_4) rfl rfl rfl (by decide +kernel) ⟨Nat.le_of_ble_eq_true rfl, Nat.le_of_ble_eq_true rfl⟩) hm hA hC 1000 rfl gM_o rfl rfl rfl hl.1 rfl (Nat.le_of_ble_eq_true rfl) d_L_law_681 ⟨by show _ ≤ 601024; omega, by show _ ≤ 7293000; omega⟩) hm hA (fun r_5 ad_8 G_7 H locs w_6 hm => ?_)
  obtain ⟨y1, hu8, hrM⟩ := kM_take w_6
  obtain ⟨ea8, eg8⟩ := Prod.mk.inj hu8
  have hm : mS D mCl (fun q => s.heap.size ≤ q) s.heap ad1 (gM dA ad1 y1.1 y1.2.1 y1.2.2 sd (gEx dA ad1 x1 (gO dA f1))) H locs := by
    rw [ea8, eg8] at hm
    exact hm
  obtain ⟨hk9, ho9, hK9⟩ := cp_take hK hrel hrM
  refine lv_istore (lv' := [(6, .int r_5), (5, .int r_1), (0, .ref b), (1, .ref (ad1 0)), (2, .ref (ad1 1000)), (3, .ref (ad1 2000)), (4, .int (nI i))]) hx hb d_L_law_684 hl (by decide) rfl (fun ls hl => ?_)
  refine lv_aload_n hx hb d_L_law_686 rfl (lv_at hl 4 rfl) ?_
  refine m_roi (m_runV (As := []) (rest := []) ⟨hx, hb, hml, hown, hts⟩ (c_M_thrown l D dA ad1 (gM dA ad1 y1.1 y1.2.1 y1.2.2 sd (gEx dA ad1 x1 (gO dA f1))) H.size y1.1 y1.2.1 y1.2.2 sd (gEx dA ad1 x1 (gO dA f1)) rfl) (cwV 0 hts (gV k_680 k_677 k_678 k_679 k_4) rfl rfl rfl (by decide +kernel) ⟨Nat.le_of_ble_eq_true rfl, Nat.le_of_ble_eq_true rfl⟩) hm hA hC 1000 rfl gM_o rfl rfl rfl hl.1 rfl (Nat.le_of_ble_eq_true rfl) d_L_law_687 ⟨by show _ ≤ 601024; omega, by show _ ≤ 7293000; omega⟩) hm hA (fun r_9 H locs w_10 hm => ?_)
  refine lv_iload hx hb d_L_law_690 (lv_at hl 1 rfl) ?_
  refine lv_icmp_eq (tgt := 697) hx hb d_L_law_692 (by decide) (fun _ => ?_) (fun c9 => absurd (w_10.trans hk9) c9)
  refine lv_iload hx hb d_L_law_697 (lv_at hl 1 rfl) ?_
  refine lv_if_ne (tgt := 714) hx hb d_L_law_699 (by decide) (fun _ => ?_) (fun c0 => ?_)
  · refine lv_goto (tgt := 1511) hx hb d_L_law_714 (by decide) ?_
    refine W.widen (k := 36 + 4 * (n + 1)) (n := 1300 + 42 * (n + 1)) (by omega) (by omega) ?_
    exact kk ad1 x1 y1 f1 ls H locs hK9 (lv_sub hl [2, 3, 4, 5, 6] rfl) hm
  · refine lv_aload_n hx hb d_L_law_702 rfl (lv_at hl 5 rfl) ?_
    refine lv_iconst (v := 0) hx hb d_L_law_703 (by decide) ?_
    refine m_lald (v := f1 0) hx hb hC.1 hm 2000 rfl 1 ((gM_out (Or.inr (by decide))).trans ((gE_out (by decide)).trans gO_at)) rfl (vpc _ _ (by decide)) rfl d_L_law_704 ?_
    refine lv_iload hx hb d_L_law_705 (lv_at hl 0 rfl) ?_
    refine lv_i2l hx hb d_L_law_707 rfl ?_
    refine lv_topl (fun x_11 ex_11 => ?_)
    refine W.lcmp hx hb d_L_law_708 ?_
    refine lv_if_eq (tgt := 714) hx hb d_L_law_709 (by decide) (fun _ => ?_) (fun c9 => absurd ((lg_eq _ _).mpr ((ho9 c0).trans ex_11.symm)) c9)
    refine lv_goto (tgt := 1511) hx hb d_L_law_714 (by decide) ?_
    refine W.widen (k := 36 + 4 * (n + 1)) (n := 1300 + 42 * (n + 1)) (by omega) (by omega) ?_
    exact kk ad1 x1 y1 f1 ls H locs hK9 (lv_sub hl [2, 3, 4, 5, 6] rfl) hm
set_option maxHeartbeats 4000000 in
set_option maxRecDepth 100000 in
theorem lc_bring {p : Program} {l : Launch} {e : Env} {s : State} {m : MethodId} {b : Nat} {below : List Frame} {meth : Method} {c : Code} {D : va_G} {dA : Nat → ClassId} {Q : State → Prop} {sd : Int64} {L : Nat} {xs : Nat → Int32} {n i : Nat} (hlt : l.stackTraces = false) (C0 : lwC p s m meth c D dA b L xs) (hn : n < 512) (hi : i + 5 ≤ L) (kk : lwK p l e s m b below meth c D dA Q sd 1511 (n + 1) i) : lwK p l e s m b below meth c D dA Q sd 717 n i := by
  obtain ⟨⟨hx, hb, hr, hml, hown⟩, hts, ⟨hX, hbl, hL⟩, hlocks, hC⟩ := C0
  have hT : ∀ w ∈ mBig, w.before _ s = true := fun w h => hts w (List.mem_cons_of_mem _ h)
  have hA : ∀ q : Nat, s.heap.size ≤ q → (fun q => s.heap.size ≤ q) q := fun q h => h
  intro ad x y f ls H locs hK hl hm
  obtain ⟨I, J, F, si, tc, oc⟩ := x
  obtain ⟨A, B, S⟩ := y
  replace hl : lv_has ls 8 [(0, .ref b), (1, .ref (ad 0)), (2, .ref (ad 1000)), (3, .ref (ad 2000)), (4, .int (nI i))] := hl
  replace hm : mS D mCl (fun q => s.heap.size ≤ q) s.heap ad (gM dA ad A B S sd (gE dA ad I J F si tc oc (gO dA f))) H locs := hm
  refine lv_aload_n hx hb d_L_law_717 rfl (lv_at hl 1 rfl) ?_
  refine lw_arg hx hb hX hbl hL hm (lv_at hl 0 rfl) (lv_at hl 4 rfl) 1 (by decide) hi d_L_law_718 d_L_law_719 d_L_law_721 (by decide) d_L_law_722 d_L_law_723 ?_
  refine lv_aload_n hx hb d_L_law_724 rfl (lv_at hl 3 rfl) ?_
  refine m_calli (m_runSW (As := [.ref (ad 0), .int (xs (i + 1)), .ref (ad 2000)]) (rest := []) ⟨hx, hb, hml, hown, hts⟩ (c_L_bring l hlt D dA ad (gM dA ad A B S sd (gE dA ad I J F si tc oc (gO dA f))) H.size I J F si tc oc (gM dA ad A B S sd (gO dA f)) gEM.symm hK.ht hK.hz (xs (i + 1)) hK.ho f ((gM_out (Or.inr (by decide))).trans gO_at)) (vx_cwSW 3 hts (gS k_389 k_387 k_388 k_0) rfl rfl rfl (by decide +kernel) ⟨Nat.le_of_ble_eq_true rfl, Nat.le_of_ble_eq_true rfl⟩) hm hA hC rfl hl.1 rfl (Nat.le_of_ble_eq_true rfl) d_L_law_725 ⟨by show _ ≤ 601024; omega, by show _ ≤ 7293000; omega⟩) hm hA (fun r_1 ad_4 G_3 H locs w_2 hm => ?_)
  obtain ⟨ad1, x1, f1, had, hu9, hrel⟩ := w_2
  obtain ⟨ea9, eg9⟩ := Prod.mk.inj hu9
  have hm : mS D mCl (fun q => s.heap.size ≤ q) s.heap ad1 (gM dA ad1 A B S sd (gEx dA ad1 x1 (gO dA f1))) H locs := by
    rw [ea9, eg9, law_w1 (fun k hk => had k (Or.inr hk))] at hm
    exact hm
  have hl : lv_has ls 8 [(0, .ref b), (1, .ref (ad1 0)), (2, .ref (ad1 1000)), (3, .ref (ad1 2000)), (4, .int (nI i))] := by
    rw [had 0 (Or.inl rfl), had 1000 (Or.inr (by decide)), had 2000 (Or.inr (by decide))]
    exact hl
  refine lv_istore (lv' := [(5, .int r_1), (0, .ref b), (1, .ref (ad1 0)), (2, .ref (ad1 1000)), (3, .ref (ad1 2000)), (4, .int (nI i))]) hx hb d_L_law_728 hl (by decide) rfl (fun ls hl => ?_)
  refine lv_aload_n hx hb d_L_law_730 rfl (lv_at hl 3 rfl) ?_
  refine lw_arg hx hb hX hbl hL hm (lv_at hl 1 rfl) (lv_at hl 5 rfl) 1 (by decide) hi d_L_law_731 d_L_law_732 d_L_law_734 (by decide) d_L_law_735 d_L_law_736 ?_
  refine m_calli (m_runV (As := [.int (xs (i + 1))]) (rest := []) ⟨hx, hb, hml, hown, hts⟩ (c_M_bring l D dA ad1 (gM dA ad1 A B S sd (gEx dA ad1 x1 (gO dA f1))) H.size A B S sd (gEx dA ad1 x1 (gO dA f1)) rfl tc hK.hS hK.ht hK.hzM (xs (i + 1))) (cwV 1 hts (gV k_738 k_735 k_736 k_737 k_4) rfl rfl rfl (by decide +kernel) ⟨Nat.le_of_ble_eq_true rfl, Nat.le_of_ble_eq_true rfl⟩) hm hA hC 1000 rfl gM_o rfl rfl rfl hl.1 rfl (Nat.le_of_ble_eq_true rfl) d_L_law_737 ⟨by show _ ≤ 601024; omega, by show _ ≤ 7293000; omega⟩) hm hA (fun r_5 ad_8 G_7 H locs w_6 hm => ?_)
  obtain ⟨y1, hu8, hrM⟩ := kM_bring w_6
  obtain ⟨ea8, eg8⟩ := Prod.mk.inj hu8
  have hm : mS D mCl (fun q => s.heap.size ≤ q) s.heap ad1 (gM dA ad1 y1.1 y1.2.1 y1.2.2 sd (gEx dA ad1 x1 (gO dA f1))) H locs := by
    rw [ea8, eg8] at hm
    exact hm
  obtain ⟨hk9, ho9, hK9⟩ := cp_bring hK hrel hrM
  refine lv_istore (lv' := [(6, .int r_5), (5, .int r_1), (0, .ref b), (1, .ref (ad1 0)), (2, .ref (ad1 1000)), (3, .ref (ad1 2000)), (4, .int (nI i))]) hx hb d_L_law_740 hl (by decide) rfl (fun ls hl => ?_)
  refine lv_aload_n hx hb d_L_law_742 rfl (lv_at hl 4 rfl) ?_
  refine m_roi (m_runV (As := []) (rest := []) ⟨hx, hb, hml, hown, hts⟩ (c_M_thrown l D dA ad1 (gM dA ad1 y1.1 y1.2.1 y1.2.2 sd (gEx dA ad1 x1 (gO dA f1))) H.size y1.1 y1.2.1 y1.2.2 sd (gEx dA ad1 x1 (gO dA f1)) rfl) (cwV 0 hts (gV k_680 k_677 k_678 k_679 k_4) rfl rfl rfl (by decide +kernel) ⟨Nat.le_of_ble_eq_true rfl, Nat.le_of_ble_eq_true rfl⟩) hm hA hC 1000 rfl gM_o rfl rfl rfl hl.1 rfl (Nat.le_of_ble_eq_true rfl) d_L_law_743 ⟨by show _ ≤ 601024; omega, by show _ ≤ 7293000; omega⟩) hm hA (fun r_9 H locs w_10 hm => ?_)
  refine lv_iload hx hb d_L_law_746 (lv_at hl 1 rfl) ?_
  refine lv_icmp_eq (tgt := 753) hx hb d_L_law_748 (by decide) (fun _ => ?_) (fun c9 => absurd (w_10.trans hk9) c9)
  refine lv_iload hx hb d_L_law_753 (lv_at hl 1 rfl) ?_
  refine lv_if_ne (tgt := 777) hx hb d_L_law_755 (by decide) (fun _ => ?_) (fun c0 => ?_)
  · refine lv_goto (tgt := 1511) hx hb d_L_law_777 (by decide) ?_
    refine W.widen (k := 36 + 4 * (n + 1)) (n := 1300 + 42 * (n + 1)) (by omega) (by omega) ?_
    exact kk ad1 x1 y1 f1 ls H locs hK9 (lv_sub hl [2, 3, 4, 5, 6] rfl) hm
  · refine lv_aload_n hx hb d_L_law_758 rfl (lv_at hl 5 rfl) ?_
    refine lv_iconst (v := 0) hx hb d_L_law_759 (by decide) ?_
    refine m_lald (v := f1 0) hx hb hC.1 hm 2000 rfl 1 ((gM_out (Or.inr (by decide))).trans ((gE_out (by decide)).trans gO_at)) rfl (vpc _ _ (by decide)) rfl d_L_law_760 ?_
    refine lv_iload hx hb d_L_law_761 (lv_at hl 0 rfl) ?_
    refine lv_if_eq (tgt := 770) hx hb d_L_law_763 (by decide) (fun c1 => ?_) (fun c1 => ?_)
    · refine lv_lconst (v := 0) hx hb d_L_law_770 (by decide) ?_
      refine W.lcmp hx hb d_L_law_771 ?_
      refine lv_if_eq (tgt := 777) hx hb d_L_law_772 (by decide) (fun _ => ?_) (fun c9 => absurd ((lg_eq _ _).mpr ((ho9 c0).trans (if_pos c1))) c9)
      refine lv_goto (tgt := 1511) hx hb d_L_law_777 (by decide) ?_
      refine W.widen (k := 36 + 4 * (n + 1)) (n := 1300 + 42 * (n + 1)) (by omega) (by omega) ?_
      exact kk ad1 x1 y1 f1 ls H locs hK9 (lv_sub hl [2, 3, 4, 5, 6] rfl) hm
    · refine lv_lconst (v := 1) hx hb d_L_law_766 (by decide) ?_
      refine lv_goto (tgt := 771) hx hb d_L_law_767 (by decide) ?_
      refine W.lcmp hx hb d_L_law_771 ?_
      refine lv_if_eq (tgt := 777) hx hb d_L_law_772 (by decide) (fun _ => ?_) (fun c9 => absurd ((lg_eq _ _).mpr ((ho9 c0).trans (if_neg c1))) c9)
      refine lv_goto (tgt := 1511) hx hb d_L_law_777 (by decide) ?_
      refine W.widen (k := 36 + 4 * (n + 1)) (n := 1300 + 42 * (n + 1)) (by omega) (by omega) ?_
      exact kk ad1 x1 y1 f1 ls H locs hK9 (lv_sub hl [2, 3, 4, 5, 6] rfl) hm
set_option maxHeartbeats 4000000 in
set_option maxRecDepth 100000 in
theorem lc_life {p : Program} {l : Launch} {e : Env} {s : State} {m : MethodId} {b : Nat} {below : List Frame} {meth : Method} {c : Code} {D : va_G} {dA : Nat → ClassId} {Q : State → Prop} {sd : Int64} {L : Nat} {xs : Nat → Int32} {n i : Nat} (hlt : l.stackTraces = false) (C0 : lwC p s m meth c D dA b L xs) (hn : n < 512) (hi : i + 5 ≤ L) (kk : lwK p l e s m b below meth c D dA Q sd 1511 (n + 1) i) : lwK p l e s m b below meth c D dA Q sd 780 n i := by
  obtain ⟨⟨hx, hb, hr, hml, hown⟩, hts, ⟨hX, hbl, hL⟩, hlocks, hC⟩ := C0
  have hT : ∀ w ∈ mBig, w.before _ s = true := fun w h => hts w (List.mem_cons_of_mem _ h)
  have hA : ∀ q : Nat, s.heap.size ≤ q → (fun q => s.heap.size ≤ q) q := fun q h => h
  intro ad x y f ls H locs hK hl hm
  obtain ⟨I, J, F, si, tc, oc⟩ := x
  obtain ⟨A, B, S⟩ := y
  replace hl : lv_has ls 8 [(0, .ref b), (1, .ref (ad 0)), (2, .ref (ad 1000)), (3, .ref (ad 2000)), (4, .int (nI i))] := hl
  replace hm : mS D mCl (fun q => s.heap.size ≤ q) s.heap ad (gM dA ad A B S sd (gE dA ad I J F si tc oc (gO dA f))) H locs := hm
  refine lv_aload_n hx hb d_L_law_780 rfl (lv_at hl 1 rfl) ?_
  refine lw_arg hx hb hX hbl hL hm (lv_at hl 0 rfl) (lv_at hl 4 rfl) 1 (by decide) hi d_L_law_781 d_L_law_782 d_L_law_784 (by decide) d_L_law_785 d_L_law_786 ?_
  refine lw_arg hx hb hX hbl hL hm (lv_at hl 0 rfl) (lv_at hl 4 rfl) 2 (by decide) hi d_L_law_787 d_L_law_788 d_L_law_790 (by decide) d_L_law_791 d_L_law_792 ?_
  refine lv_aload_n hx hb d_L_law_793 rfl (lv_at hl 3 rfl) ?_
  refine m_calli (m_runSW (As := [.ref (ad 0), .int (xs (i + 1)), .int (xs (i + 2)), .ref (ad 2000)]) (rest := []) ⟨hx, hb, hml, hown, hts⟩ (c_L_life l hlt D dA ad (gM dA ad A B S sd (gE dA ad I J F si tc oc (gO dA f))) H.size I J F si tc oc (gM dA ad A B S sd (gO dA f)) gEM.symm hK.ht hK.hL (xs (i + 1)) (xs (i + 2)) hK.ho f ((gM_out (Or.inr (by decide))).trans gO_at)) (vx_cwSW 4 hts (gS k_396 k_394 k_395 k_0) rfl rfl rfl (by decide +kernel) ⟨Nat.le_of_ble_eq_true rfl, Nat.le_of_ble_eq_true rfl⟩) hm hA hC rfl hl.1 rfl (Nat.le_of_ble_eq_true rfl) d_L_law_794 ⟨by show _ ≤ 601024; omega, by show _ ≤ 7293000; omega⟩) hm hA (fun r_1 ad_4 G_3 H locs w_2 hm => ?_)
  obtain ⟨ad1, x1, f1, had, hu9, hrel⟩ := w_2
  obtain ⟨ea9, eg9⟩ := Prod.mk.inj hu9
  have hm : mS D mCl (fun q => s.heap.size ≤ q) s.heap ad1 (gM dA ad1 A B S sd (gEx dA ad1 x1 (gO dA f1))) H locs := by
    rw [ea9, eg9, law_w1 (fun k hk => had k (Or.inr hk))] at hm
    exact hm
  have hl : lv_has ls 8 [(0, .ref b), (1, .ref (ad1 0)), (2, .ref (ad1 1000)), (3, .ref (ad1 2000)), (4, .int (nI i))] := by
    rw [had 0 (Or.inl rfl), had 1000 (Or.inr (by decide)), had 2000 (Or.inr (by decide))]
    exact hl
  refine lv_istore (lv' := [(5, .int r_1), (0, .ref b), (1, .ref (ad1 0)), (2, .ref (ad1 1000)), (3, .ref (ad1 2000)), (4, .int (nI i))]) hx hb d_L_law_797 hl (by decide) rfl (fun ls hl => ?_)
  refine lv_aload_n hx hb d_L_law_799 rfl (lv_at hl 3 rfl) ?_
  refine lw_arg hx hb hX hbl hL hm (lv_at hl 1 rfl) (lv_at hl 5 rfl) 1 (by decide) hi d_L_law_800 d_L_law_801 d_L_law_803 (by decide) d_L_law_804 d_L_law_805 ?_
  refine lw_arg hx hb hX hbl hL hm (lv_at hl 1 rfl) (lv_at hl 5 rfl) 2 (by decide) hi d_L_law_806 d_L_law_807 d_L_law_809 (by decide) d_L_law_810 d_L_law_811 ?_
  refine m_calli (m_runV (As := [.int (xs (i + 1)), .int (xs (i + 2))]) (rest := []) ⟨hx, hb, hml, hown, hts⟩ (c_M_life l D dA ad1 (gM dA ad1 A B S sd (gEx dA ad1 x1 (gO dA f1))) H.size A B S sd (gEx dA ad1 x1 (gO dA f1)) rfl hK.hLM (xs (i + 1)) (xs (i + 2))) (cwV 2 hts (gV k_742 k_739 k_740 k_741 k_4) rfl rfl rfl (by decide +kernel) ⟨Nat.le_of_ble_eq_true rfl, Nat.le_of_ble_eq_true rfl⟩) hm hA hC 1000 rfl gM_o rfl rfl rfl hl.1 rfl (Nat.le_of_ble_eq_true rfl) d_L_law_812 ⟨by show _ ≤ 601024; omega, by show _ ≤ 7293000; omega⟩) hm hA (fun r_5 ad_8 G_7 H locs w_6 hm => ?_)
  obtain ⟨y1, hu8, hrM⟩ := kM_life w_6
  obtain ⟨ea8, eg8⟩ := Prod.mk.inj hu8
  have hm : mS D mCl (fun q => s.heap.size ≤ q) s.heap ad1 (gM dA ad1 y1.1 y1.2.1 y1.2.2 sd (gEx dA ad1 x1 (gO dA f1))) H locs := by
    rw [ea8, eg8] at hm
    exact hm
  obtain ⟨hk9, ho9, hK9⟩ := cp_life hK hrel hrM
  refine lv_istore (lv' := [(6, .int r_5), (5, .int r_1), (0, .ref b), (1, .ref (ad1 0)), (2, .ref (ad1 1000)), (3, .ref (ad1 2000)), (4, .int (nI i))]) hx hb d_L_law_815 hl (by decide) rfl (fun ls hl => ?_)
  refine lv_aload_n hx hb d_L_law_817 rfl (lv_at hl 4 rfl) ?_
  refine m_roi (m_runV (As := []) (rest := []) ⟨hx, hb, hml, hown, hts⟩ (c_M_thrown l D dA ad1 (gM dA ad1 y1.1 y1.2.1 y1.2.2 sd (gEx dA ad1 x1 (gO dA f1))) H.size y1.1 y1.2.1 y1.2.2 sd (gEx dA ad1 x1 (gO dA f1)) rfl) (cwV 0 hts (gV k_680 k_677 k_678 k_679 k_4) rfl rfl rfl (by decide +kernel) ⟨Nat.le_of_ble_eq_true rfl, Nat.le_of_ble_eq_true rfl⟩) hm hA hC 1000 rfl gM_o rfl rfl rfl hl.1 rfl (Nat.le_of_ble_eq_true rfl) d_L_law_818 ⟨by show _ ≤ 601024; omega, by show _ ≤ 7293000; omega⟩) hm hA (fun r_9 H locs w_10 hm => ?_)
  refine lv_iload hx hb d_L_law_821 (lv_at hl 1 rfl) ?_
  refine lv_icmp_eq (tgt := 828) hx hb d_L_law_823 (by decide) (fun _ => ?_) (fun c9 => absurd (w_10.trans hk9) c9)
  refine lv_iload hx hb d_L_law_828 (lv_at hl 1 rfl) ?_
  refine lv_if_ne (tgt := 845) hx hb d_L_law_830 (by decide) (fun _ => ?_) (fun c0 => ?_)
  · refine lv_goto (tgt := 1511) hx hb d_L_law_845 (by decide) ?_
    refine W.widen (k := 36 + 4 * (n + 1)) (n := 1300 + 42 * (n + 1)) (by omega) (by omega) ?_
    exact kk ad1 x1 y1 f1 ls H locs hK9 (lv_sub hl [2, 3, 4, 5, 6] rfl) hm
  · refine lv_aload_n hx hb d_L_law_833 rfl (lv_at hl 5 rfl) ?_
    refine lv_iconst (v := 0) hx hb d_L_law_834 (by decide) ?_
    refine m_lald (v := f1 0) hx hb hC.1 hm 2000 rfl 1 ((gM_out (Or.inr (by decide))).trans ((gE_out (by decide)).trans gO_at)) rfl (vpc _ _ (by decide)) rfl d_L_law_835 ?_
    refine lv_iload hx hb d_L_law_836 (lv_at hl 0 rfl) ?_
    refine lv_i2l hx hb d_L_law_838 rfl ?_
    refine lv_topl (fun x_11 ex_11 => ?_)
    refine W.lcmp hx hb d_L_law_839 ?_
    refine lv_if_eq (tgt := 845) hx hb d_L_law_840 (by decide) (fun _ => ?_) (fun c9 => absurd ((lg_eq _ _).mpr ((ho9 c0).trans ex_11.symm)) c9)
    refine lv_goto (tgt := 1511) hx hb d_L_law_845 (by decide) ?_
    refine W.widen (k := 36 + 4 * (n + 1)) (n := 1300 + 42 * (n + 1)) (by omega) (by omega) ?_
    exact kk ad1 x1 y1 f1 ls H locs hK9 (lv_sub hl [2, 3, 4, 5, 6] rfl) hm
