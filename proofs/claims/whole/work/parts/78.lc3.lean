set_option maxHeartbeats 4000000 in
set_option maxRecDepth 100000 in
theorem lc_cost {p : Program} {l : Launch} {e : Env} {s : State} {m : MethodId} {b : Nat} {below : List Frame} {meth : Method} {c : Code} {D : va_G} {dA : Nat → ClassId} {Q : State → Prop} {sd : Int64} {L : Nat} {xs : Nat → Int32} {n i : Nat} (hlt : l.stackTraces = false) (C0 : lwC p s m meth c D dA b L xs) (hn : n < 512) (hi : i + 5 ≤ L) (kk : lwK p l e s m b below meth c D dA Q sd 1511 (n + 1) i) : lwK p l e s m b below meth c D dA Q sd 848 n i := by
  obtain ⟨⟨hx, hb, hr, hml, hown⟩, hts, ⟨hX, hbl, hL⟩, hlocks, hC⟩ := C0
  have hT : ∀ w ∈ mBig, w.before _ s = true := fun w h => hts w (List.mem_cons_of_mem _ h)
  have hA : ∀ q : Nat, s.heap.size ≤ q → (fun q => s.heap.size ≤ q) q := fun q h => h
  intro ad x y f ls H locs hK hl hm
  obtain ⟨I, J, F, si, tc, oc⟩ := x
  obtain ⟨A, B, S⟩ := y
  replace hl : lv_has ls 8 [(0, .ref b), (1, .ref (ad 0)), (2, .ref (ad 1000)), (3, .ref (ad 2000)), (4, .int (nI i))] := hl
  replace hm : mS D mCl (fun q => s.heap.size ≤ q) s.heap ad (gM dA ad A B S sd (gE dA ad I J F si tc oc (gO dA f))) H locs := hm
  refine lv_aload_n hx hb d_L_law_848 rfl (lv_at hl 1 rfl) ?_
  refine lw_arg hx hb hX hbl hL hm (lv_at hl 0 rfl) (lv_at hl 4 rfl) 1 (by decide) hi d_L_law_849 d_L_law_850 d_L_law_852 (by decide) d_L_law_853 d_L_law_854 ?_
  refine lw_arg hx hb hX hbl hL hm (lv_at hl 0 rfl) (lv_at hl 4 rfl) 2 (by decide) hi d_L_law_855 d_L_law_856 d_L_law_858 (by decide) d_L_law_859 d_L_law_860 ?_
  refine lw_arg hx hb hX hbl hL hm (lv_at hl 0 rfl) (lv_at hl 4 rfl) 3 (by decide) hi d_L_law_861 d_L_law_862 d_L_law_864 (by decide) d_L_law_865 d_L_law_866 ?_
  refine m_calli (m_runSW (As := [.ref (ad 0), .int (xs (i + 1)), .int (xs (i + 2)), .int (xs (i + 3))]) (rest := []) ⟨hx, hb, hml, hown, hts⟩ (c_L_cost l hlt D dA ad (gM dA ad A B S sd (gE dA ad I J F si tc oc (gO dA f))) H.size I J F si tc oc (gM dA ad A B S sd (gO dA f)) gEM.symm hK.ht (xs (i + 1)) (xs (i + 2)) (xs (i + 3)) hK.ho) (vx_cwSW 4 hts (gS k_405 k_403 k_404 k_0) rfl rfl rfl (by decide +kernel) ⟨Nat.le_of_ble_eq_true rfl, Nat.le_of_ble_eq_true rfl⟩) hm hA hC rfl hl.1 rfl (Nat.le_of_ble_eq_true rfl) d_L_law_867 ⟨by show _ ≤ 601024; omega, by show _ ≤ 7293000; omega⟩) hm hA (fun r_1 ad_4 G_3 H locs w_2 hm => ?_)
  obtain ⟨ad1, x1, had, hu9, hrel⟩ := w_2
  obtain ⟨ea9, eg9⟩ := Prod.mk.inj hu9
  have hm : mS D mCl (fun q => s.heap.size ≤ q) s.heap ad1 (gM dA ad1 A B S sd (gEx dA ad1 x1 (gO dA f))) H locs := by
    rw [ea9, eg9, law_w2 (fun k hk => had k (Or.inr hk))] at hm
    exact hm
  have hl : lv_has ls 8 [(0, .ref b), (1, .ref (ad1 0)), (2, .ref (ad1 1000)), (3, .ref (ad1 2000)), (4, .int (nI i))] := by
    rw [had 0 (Or.inl rfl), had 1000 (Or.inr (by decide)), had 2000 (Or.inr (by decide))]
    exact hl
  refine lv_istore (lv' := [(5, .int r_1), (0, .ref b), (1, .ref (ad1 0)), (2, .ref (ad1 1000)), (3, .ref (ad1 2000)), (4, .int (nI i))]) hx hb d_L_law_870 hl (by decide) rfl (fun ls hl => ?_)
  refine lv_aload_n hx hb d_L_law_872 rfl (lv_at hl 3 rfl) ?_
  refine lw_arg hx hb hX hbl hL hm (lv_at hl 1 rfl) (lv_at hl 5 rfl) 1 (by decide) hi d_L_law_873 d_L_law_874 d_L_law_876 (by decide) d_L_law_877 d_L_law_878 ?_
  refine lw_arg hx hb hX hbl hL hm (lv_at hl 1 rfl) (lv_at hl 5 rfl) 2 (by decide) hi d_L_law_879 d_L_law_880 d_L_law_882 (by decide) d_L_law_883 d_L_law_884 ?_
  refine lw_arg hx hb hX hbl hL hm (lv_at hl 1 rfl) (lv_at hl 5 rfl) 3 (by decide) hi d_L_law_885 d_L_law_886 d_L_law_888 (by decide) d_L_law_889 d_L_law_890 ?_
  refine m_callv (m_runV (As := [.int (xs (i + 1)), .int (xs (i + 2)), .int (xs (i + 3))]) (rest := []) ⟨hx, hb, hml, hown, hts⟩ (c_M_cost l D dA ad1 (gM dA ad1 A B S sd (gEx dA ad1 x1 (gO dA f))) H.size A B S sd (gEx dA ad1 x1 (gO dA f)) rfl (xs (i + 1)) (xs (i + 2)) (xs (i + 3))) (cwV 3 hts (gV k_747 k_744 k_745 k_746 k_4) rfl rfl rfl (by decide +kernel) ⟨Nat.le_of_ble_eq_true rfl, Nat.le_of_ble_eq_true rfl⟩) hm hA hC 1000 rfl gM_o rfl rfl rfl hl.1 rfl (Nat.le_of_ble_eq_true rfl) d_L_law_891 ⟨by show _ ≤ 601024; omega, by show _ ≤ 7293000; omega⟩) hm hA (fun ad_8 G_7 H locs w_6 hm => ?_)
  obtain ⟨y1, hu8, hrM⟩ := kM_cost w_6
  obtain ⟨ea8, eg8⟩ := Prod.mk.inj hu8
  have hm : mS D mCl (fun q => s.heap.size ≤ q) s.heap ad1 (gM dA ad1 y1.1 y1.2.1 y1.2.2 sd (gEx dA ad1 x1 (gO dA f))) H locs := by
    rw [ea8, eg8] at hm
    exact hm
  obtain ⟨hk9, hK9⟩ := cp_cost hK hrel hrM
  refine lv_aload_n hx hb d_L_law_894 rfl (lv_at hl 3 rfl) ?_
  refine m_roi (m_runV (As := []) (rest := []) ⟨hx, hb, hml, hown, hts⟩ (c_M_thrown l D dA ad1 (gM dA ad1 y1.1 y1.2.1 y1.2.2 sd (gEx dA ad1 x1 (gO dA f))) H.size y1.1 y1.2.1 y1.2.2 sd (gEx dA ad1 x1 (gO dA f)) rfl) (cwV 0 hts (gV k_680 k_677 k_678 k_679 k_4) rfl rfl rfl (by decide +kernel) ⟨Nat.le_of_ble_eq_true rfl, Nat.le_of_ble_eq_true rfl⟩) hm hA hC 1000 rfl gM_o rfl rfl rfl hl.1 rfl (Nat.le_of_ble_eq_true rfl) d_L_law_895 ⟨by show _ ≤ 601024; omega, by show _ ≤ 7293000; omega⟩) hm hA (fun r_9 H locs w_10 hm => ?_)
  refine lv_iload hx hb d_L_law_898 (lv_at hl 0 rfl) ?_
  refine lv_icmp_eq (tgt := 905) hx hb d_L_law_900 (by decide) (fun _ => ?_) (fun c9 => absurd (w_10.trans hk9) c9)
  refine lv_goto (tgt := 1511) hx hb d_L_law_905 (by decide) ?_
  refine W.widen (k := 36 + 4 * (n + 1)) (n := 1300 + 42 * (n + 1)) (by omega) (by omega) ?_
  exact kk ad1 x1 y1 f ls H locs hK9 (lv_sub hl [1, 2, 3, 4, 5] rfl) hm
set_option maxHeartbeats 4000000 in
set_option maxRecDepth 100000 in
theorem lc_change {p : Program} {l : Launch} {e : Env} {s : State} {m : MethodId} {b : Nat} {below : List Frame} {meth : Method} {c : Code} {D : va_G} {dA : Nat → ClassId} {Q : State → Prop} {sd : Int64} {L : Nat} {xs : Nat → Int32} {n i : Nat} (hlt : l.stackTraces = false) (C0 : lwC p s m meth c D dA b L xs) (hn : n < 512) (hi : i + 5 ≤ L) (kk : lwK p l e s m b below meth c D dA Q sd 1511 (n + 1) i) : lwK p l e s m b below meth c D dA Q sd 908 n i := by
  obtain ⟨⟨hx, hb, hr, hml, hown⟩, hts, ⟨hX, hbl, hL⟩, hlocks, hC⟩ := C0
  have hT : ∀ w ∈ mBig, w.before _ s = true := fun w h => hts w (List.mem_cons_of_mem _ h)
  have hA : ∀ q : Nat, s.heap.size ≤ q → (fun q => s.heap.size ≤ q) q := fun q h => h
  intro ad x y f ls H locs hK hl hm
  obtain ⟨I, J, F, si, tc, oc⟩ := x
  obtain ⟨A, B, S⟩ := y
  replace hl : lv_has ls 8 [(0, .ref b), (1, .ref (ad 0)), (2, .ref (ad 1000)), (3, .ref (ad 2000)), (4, .int (nI i))] := hl
  replace hm : mS D mCl (fun q => s.heap.size ≤ q) s.heap ad (gM dA ad A B S sd (gE dA ad I J F si tc oc (gO dA f))) H locs := hm
  refine lv_aload_n hx hb d_L_law_908 rfl (lv_at hl 1 rfl) ?_
  refine lw_arg hx hb hX hbl hL hm (lv_at hl 0 rfl) (lv_at hl 4 rfl) 1 (by decide) hi d_L_law_909 d_L_law_910 d_L_law_912 (by decide) d_L_law_913 d_L_law_914 ?_
  refine lv_aload_n hx hb d_L_law_915 rfl (lv_at hl 3 rfl) ?_
  refine m_calli (m_runSW (As := [.ref (ad 0), .int (xs (i + 1)), .ref (ad 2000)]) (rest := []) ⟨hx, hb, hml, hown, hts⟩ (c_L_change l hlt D dA ad (gM dA ad A B S sd (gE dA ad I J F si tc oc (gO dA f))) H.size I J F si tc oc (gM dA ad A B S sd (gO dA f)) gEM.symm hK.ht hK.hL (xs (i + 1)) hK.ho f ((gM_out (Or.inr (by decide))).trans gO_at)) (vx_cwSW 3 hts (gS k_413 k_411 k_412 k_0) rfl rfl rfl (by decide +kernel) ⟨Nat.le_of_ble_eq_true rfl, Nat.le_of_ble_eq_true rfl⟩) hm hA hC rfl hl.1 rfl (Nat.le_of_ble_eq_true rfl) d_L_law_916 ⟨by show _ ≤ 601024; omega, by show _ ≤ 7293000; omega⟩) hm hA (fun r_1 ad_4 G_3 H locs w_2 hm => ?_)
  obtain ⟨ad1, x1, f1, had, hu9, hrel⟩ := w_2
  obtain ⟨ea9, eg9⟩ := Prod.mk.inj hu9
  have hm : mS D mCl (fun q => s.heap.size ≤ q) s.heap ad1 (gM dA ad1 A B S sd (gEx dA ad1 x1 (gO dA f1))) H locs := by
    rw [ea9, eg9, law_w1 (fun k hk => had k (Or.inr hk))] at hm
    exact hm
  have hl : lv_has ls 8 [(0, .ref b), (1, .ref (ad1 0)), (2, .ref (ad1 1000)), (3, .ref (ad1 2000)), (4, .int (nI i))] := by
    rw [had 0 (Or.inl rfl), had 1000 (Or.inr (by decide)), had 2000 (Or.inr (by decide))]
    exact hl
  refine lv_istore (lv' := [(5, .int r_1), (0, .ref b), (1, .ref (ad1 0)), (2, .ref (ad1 1000)), (3, .ref (ad1 2000)), (4, .int (nI i))]) hx hb d_L_law_919 hl (by decide) rfl (fun ls hl => ?_)
  refine lv_aload_n hx hb d_L_law_921 rfl (lv_at hl 3 rfl) ?_
  refine lw_arg hx hb hX hbl hL hm (lv_at hl 1 rfl) (lv_at hl 5 rfl) 1 (by decide) hi d_L_law_922 d_L_law_923 d_L_law_925 (by decide) d_L_law_926 d_L_law_927 ?_
  refine m_calli (m_runV (As := [.int (xs (i + 1))]) (rest := []) ⟨hx, hb, hml, hown, hts⟩ (c_M_change l D dA ad1 (gM dA ad1 A B S sd (gEx dA ad1 x1 (gO dA f1))) H.size A B S sd (gEx dA ad1 x1 (gO dA f1)) rfl hK.hLM hK.hV (I 3) (I 4) hK.hcf (xs (i + 1))) (cwV 1 hts (gV k_751 k_748 k_749 k_750 k_4) rfl rfl rfl (by decide +kernel) ⟨Nat.le_of_ble_eq_true rfl, Nat.le_of_ble_eq_true rfl⟩) hm hA hC 1000 rfl gM_o rfl rfl rfl hl.1 rfl (Nat.le_of_ble_eq_true rfl) d_L_law_928 ⟨by show _ ≤ 601024; omega, by show _ ≤ 7293000; omega⟩) hm hA (fun r_5 ad_8 G_7 H locs w_6 hm => ?_)
  obtain ⟨y1, hu8, hrM⟩ := kM_change w_6
  obtain ⟨ea8, eg8⟩ := Prod.mk.inj hu8
  have hm : mS D mCl (fun q => s.heap.size ≤ q) s.heap ad1 (gM dA ad1 y1.1 y1.2.1 y1.2.2 sd (gEx dA ad1 x1 (gO dA f1))) H locs := by
    rw [ea8, eg8] at hm
    exact hm
  obtain ⟨hk9, ho9, hK9⟩ := cp_change hK hrel hrM
  refine lv_istore (lv' := [(6, .int r_5), (5, .int r_1), (0, .ref b), (1, .ref (ad1 0)), (2, .ref (ad1 1000)), (3, .ref (ad1 2000)), (4, .int (nI i))]) hx hb d_L_law_931 hl (by decide) rfl (fun ls hl => ?_)
  refine lv_aload_n hx hb d_L_law_933 rfl (lv_at hl 4 rfl) ?_
  refine m_roi (m_runV (As := []) (rest := []) ⟨hx, hb, hml, hown, hts⟩ (c_M_thrown l D dA ad1 (gM dA ad1 y1.1 y1.2.1 y1.2.2 sd (gEx dA ad1 x1 (gO dA f1))) H.size y1.1 y1.2.1 y1.2.2 sd (gEx dA ad1 x1 (gO dA f1)) rfl) (cwV 0 hts (gV k_680 k_677 k_678 k_679 k_4) rfl rfl rfl (by decide +kernel) ⟨Nat.le_of_ble_eq_true rfl, Nat.le_of_ble_eq_true rfl⟩) hm hA hC 1000 rfl gM_o rfl rfl rfl hl.1 rfl (Nat.le_of_ble_eq_true rfl) d_L_law_934 ⟨by show _ ≤ 601024; omega, by show _ ≤ 7293000; omega⟩) hm hA (fun r_9 H locs w_10 hm => ?_)
  refine lv_iload hx hb d_L_law_937 (lv_at hl 1 rfl) ?_
  refine lv_icmp_eq (tgt := 944) hx hb d_L_law_939 (by decide) (fun _ => ?_) (fun c9 => absurd (w_10.trans hk9) c9)
  refine lv_iload hx hb d_L_law_944 (lv_at hl 1 rfl) ?_
  refine lv_if_ne (tgt := 961) hx hb d_L_law_946 (by decide) (fun _ => ?_) (fun c0 => ?_)
  · refine lv_goto (tgt := 1511) hx hb d_L_law_961 (by decide) ?_
    refine W.widen (k := 36 + 4 * (n + 1)) (n := 1300 + 42 * (n + 1)) (by omega) (by omega) ?_
    exact kk ad1 x1 y1 f1 ls H locs hK9 (lv_sub hl [2, 3, 4, 5, 6] rfl) hm
  · refine lv_aload_n hx hb d_L_law_949 rfl (lv_at hl 5 rfl) ?_
    refine lv_iconst (v := 0) hx hb d_L_law_950 (by decide) ?_
    refine m_lald (v := f1 0) hx hb hC.1 hm 2000 rfl 1 ((gM_out (Or.inr (by decide))).trans ((gE_out (by decide)).trans gO_at)) rfl (vpc _ _ (by decide)) rfl d_L_law_951 ?_
    refine lv_iload hx hb d_L_law_952 (lv_at hl 0 rfl) ?_
    refine lv_i2l hx hb d_L_law_954 rfl ?_
    refine lv_topl (fun x_11 ex_11 => ?_)
    refine W.lcmp hx hb d_L_law_955 ?_
    refine lv_if_eq (tgt := 961) hx hb d_L_law_956 (by decide) (fun _ => ?_) (fun c9 => absurd ((lg_eq _ _).mpr ((ho9 c0).trans ex_11.symm)) c9)
    refine lv_goto (tgt := 1511) hx hb d_L_law_961 (by decide) ?_
    refine W.widen (k := 36 + 4 * (n + 1)) (n := 1300 + 42 * (n + 1)) (by omega) (by omega) ?_
    exact kk ad1 x1 y1 f1 ls H locs hK9 (lv_sub hl [2, 3, 4, 5, 6] rfl) hm
set_option maxHeartbeats 4000000 in
set_option maxRecDepth 100000 in
theorem lc_changed {p : Program} {l : Launch} {e : Env} {s : State} {m : MethodId} {b : Nat} {below : List Frame} {meth : Method} {c : Code} {D : va_G} {dA : Nat → ClassId} {Q : State → Prop} {sd : Int64} {L : Nat} {xs : Nat → Int32} {n i : Nat} (hlt : l.stackTraces = false) (C0 : lwC p s m meth c D dA b L xs) (hn : n < 512) (hi : i + 5 ≤ L) (kk : lwK p l e s m b below meth c D dA Q sd 1511 (n + 1) i) : lwK p l e s m b below meth c D dA Q sd 964 n i := by
  obtain ⟨⟨hx, hb, hr, hml, hown⟩, hts, ⟨hX, hbl, hL⟩, hlocks, hC⟩ := C0
  have hT : ∀ w ∈ mBig, w.before _ s = true := fun w h => hts w (List.mem_cons_of_mem _ h)
  have hA : ∀ q : Nat, s.heap.size ≤ q → (fun q => s.heap.size ≤ q) q := fun q h => h
  intro ad x y f ls H locs hK hl hm
  obtain ⟨I, J, F, si, tc, oc⟩ := x
  obtain ⟨A, B, S⟩ := y
  replace hl : lv_has ls 8 [(0, .ref b), (1, .ref (ad 0)), (2, .ref (ad 1000)), (3, .ref (ad 2000)), (4, .int (nI i))] := hl
  replace hm : mS D mCl (fun q => s.heap.size ≤ q) s.heap ad (gM dA ad A B S sd (gE dA ad I J F si tc oc (gO dA f))) H locs := hm
  refine lv_aload_n hx hb d_L_law_964 rfl (lv_at hl 1 rfl) ?_
  refine lw_arg hx hb hX hbl hL hm (lv_at hl 0 rfl) (lv_at hl 4 rfl) 1 (by decide) hi d_L_law_965 d_L_law_966 d_L_law_968 (by decide) d_L_law_969 d_L_law_970 ?_
  refine lw_arg hx hb hX hbl hL hm (lv_at hl 0 rfl) (lv_at hl 4 rfl) 2 (by decide) hi d_L_law_971 d_L_law_972 d_L_law_974 (by decide) d_L_law_975 d_L_law_976 ?_
  refine lw_arg hx hb hX hbl hL hm (lv_at hl 0 rfl) (lv_at hl 4 rfl) 3 (by decide) hi d_L_law_977 d_L_law_978 d_L_law_980 (by decide) d_L_law_981 d_L_law_982 ?_
  refine lv_aload_n hx hb d_L_law_983 rfl (lv_at hl 3 rfl) ?_
  refine m_calli (m_runSW (As := [.ref (ad 0), .int (xs (i + 1)), .int (xs (i + 2)), .int (xs (i + 3)), .ref (ad 2000)]) (rest := []) ⟨hx, hb, hml, hown, hts⟩ (c_L_changed l hlt D dA ad (gM dA ad A B S sd (gE dA ad I J F si tc oc (gO dA f))) H.size I J F si tc oc (gM dA ad A B S sd (gO dA f)) gEM.symm hK.ht hK.hL (xs (i + 1)) (xs (i + 2)) (xs (i + 3)) hK.ho f ((gM_out (Or.inr (by decide))).trans gO_at)) (vx_cwSW 5 hts (gS k_440 k_438 k_439 k_0) rfl rfl rfl (by decide +kernel) ⟨Nat.le_of_ble_eq_true rfl, Nat.le_of_ble_eq_true rfl⟩) hm hA hC rfl hl.1 rfl (Nat.le_of_ble_eq_true rfl) d_L_law_984 ⟨by show _ ≤ 601024; omega, by show _ ≤ 7293000; omega⟩) hm hA (fun r_1 ad_4 G_3 H locs w_2 hm => ?_)
  obtain ⟨ad1, x1, f1, had, hu9, hrel⟩ := w_2
  obtain ⟨ea9, eg9⟩ := Prod.mk.inj hu9
  have hm : mS D mCl (fun q => s.heap.size ≤ q) s.heap ad1 (gM dA ad1 A B S sd (gEx dA ad1 x1 (gO dA f1))) H locs := by
    rw [ea9, eg9, law_w1 (fun k hk => had k (Or.inr hk))] at hm
    exact hm
  have hl : lv_has ls 8 [(0, .ref b), (1, .ref (ad1 0)), (2, .ref (ad1 1000)), (3, .ref (ad1 2000)), (4, .int (nI i))] := by
    rw [had 0 (Or.inl rfl), had 1000 (Or.inr (by decide)), had 2000 (Or.inr (by decide))]
    exact hl
  refine lv_istore (lv' := [(5, .int r_1), (0, .ref b), (1, .ref (ad1 0)), (2, .ref (ad1 1000)), (3, .ref (ad1 2000)), (4, .int (nI i))]) hx hb d_L_law_987 hl (by decide) rfl (fun ls hl => ?_)
  refine lv_aload_n hx hb d_L_law_989 rfl (lv_at hl 3 rfl) ?_
  refine lw_arg hx hb hX hbl hL hm (lv_at hl 1 rfl) (lv_at hl 5 rfl) 1 (by decide) hi d_L_law_990 d_L_law_991 d_L_law_993 (by decide) d_L_law_994 d_L_law_995 ?_
  refine lw_arg hx hb hX hbl hL hm (lv_at hl 1 rfl) (lv_at hl 5 rfl) 2 (by decide) hi d_L_law_996 d_L_law_997 d_L_law_999 (by decide) d_L_law_1000 d_L_law_1001 ?_
  refine lw_arg hx hb hX hbl hL hm (lv_at hl 1 rfl) (lv_at hl 5 rfl) 3 (by decide) hi d_L_law_1002 d_L_law_1003 d_L_law_1005 (by decide) d_L_law_1006 d_L_law_1007 ?_
  refine m_calll (m_runV (As := [.int (xs (i + 1)), .int (xs (i + 2)), .int (xs (i + 3))]) (rest := []) ⟨hx, hb, hml, hown, hts⟩ (c_M_changed l D dA ad1 (gM dA ad1 A B S sd (gEx dA ad1 x1 (gO dA f1))) H.size A B S sd (gEx dA ad1 x1 (gO dA f1)) rfl hK.hLM (I 3) (I 4) hK.hcf (xs (i + 1)) (xs (i + 2)) (xs (i + 3))) (cwV 3 hts (gV k_767 k_764 k_765 k_766 k_4) rfl rfl rfl (by decide +kernel) ⟨Nat.le_of_ble_eq_true rfl, Nat.le_of_ble_eq_true rfl⟩) hm hA hC 1000 rfl gM_o rfl rfl rfl hl.1 rfl (Nat.le_of_ble_eq_true rfl) d_L_law_1008 ⟨by show _ ≤ 601024; omega, by show _ ≤ 7293000; omega⟩) hm hA (fun r_5 ad_8 G_7 H locs w_6 hm => ?_)
  obtain ⟨y1, hu8, hrM⟩ := kM_changed w_6
  obtain ⟨ea8, eg8⟩ := Prod.mk.inj hu8
  have hm : mS D mCl (fun q => s.heap.size ≤ q) s.heap ad1 (gM dA ad1 y1.1 y1.2.1 y1.2.2 sd (gEx dA ad1 x1 (gO dA f1))) H locs := by
    rw [ea8, eg8] at hm
    exact hm
  obtain ⟨hk9, ho9, hK9⟩ := cp_changed hK hrel hrM
  refine lv_lstore (lv' := [(6, .long r_5), (5, .int r_1), (0, .ref b), (1, .ref (ad1 0)), (2, .ref (ad1 1000)), (3, .ref (ad1 2000)), (4, .int (nI i))]) hx hb d_L_law_1011 hl (by decide) rfl (fun ls hl => ?_)
  refine lv_aload_n hx hb d_L_law_1013 rfl (lv_at hl 4 rfl) ?_
  refine m_roi (m_runV (As := []) (rest := []) ⟨hx, hb, hml, hown, hts⟩ (c_M_thrown l D dA ad1 (gM dA ad1 y1.1 y1.2.1 y1.2.2 sd (gEx dA ad1 x1 (gO dA f1))) H.size y1.1 y1.2.1 y1.2.2 sd (gEx dA ad1 x1 (gO dA f1)) rfl) (cwV 0 hts (gV k_680 k_677 k_678 k_679 k_4) rfl rfl rfl (by decide +kernel) ⟨Nat.le_of_ble_eq_true rfl, Nat.le_of_ble_eq_true rfl⟩) hm hA hC 1000 rfl gM_o rfl rfl rfl hl.1 rfl (Nat.le_of_ble_eq_true rfl) d_L_law_1014 ⟨by show _ ≤ 601024; omega, by show _ ≤ 7293000; omega⟩) hm hA (fun r_9 H locs w_10 hm => ?_)
  refine lv_iload hx hb d_L_law_1017 (lv_at hl 1 rfl) ?_
  refine lv_icmp_eq (tgt := 1024) hx hb d_L_law_1019 (by decide) (fun _ => ?_) (fun c9 => absurd (w_10.trans hk9) c9)
  refine lv_iload hx hb d_L_law_1024 (lv_at hl 1 rfl) ?_
  refine lv_if_ne (tgt := 1040) hx hb d_L_law_1026 (by decide) (fun _ => ?_) (fun c0 => ?_)
  · refine lv_goto (tgt := 1511) hx hb d_L_law_1040 (by decide) ?_
    refine W.widen (k := 36 + 4 * (n + 1)) (n := 1300 + 42 * (n + 1)) (by omega) (by omega) ?_
    exact kk ad1 x1 y1 f1 ls H locs hK9 (lv_sub hl [2, 3, 4, 5, 6] rfl) hm
  · refine lv_aload_n hx hb d_L_law_1029 rfl (lv_at hl 5 rfl) ?_
    refine lv_iconst (v := 0) hx hb d_L_law_1030 (by decide) ?_
    refine m_lald (v := f1 0) hx hb hC.1 hm 2000 rfl 1 ((gM_out (Or.inr (by decide))).trans ((gE_out (by decide)).trans gO_at)) rfl (vpc _ _ (by decide)) rfl d_L_law_1031 ?_
    refine lv_lload hx hb d_L_law_1032 (lv_at hl 0 rfl) ?_
    refine W.lcmp hx hb d_L_law_1034 ?_
    refine lv_if_eq (tgt := 1040) hx hb d_L_law_1035 (by decide) (fun _ => ?_) (fun c9 => absurd ((lg_eq _ _).mpr (ho9 c0)) c9)
    refine lv_goto (tgt := 1511) hx hb d_L_law_1040 (by decide) ?_
    refine W.widen (k := 36 + 4 * (n + 1)) (n := 1300 + 42 * (n + 1)) (by omega) (by omega) ?_
    exact kk ad1 x1 y1 f1 ls H locs hK9 (lv_sub hl [2, 3, 4, 5, 6] rfl) hm
set_option maxHeartbeats 4000000 in
set_option maxRecDepth 100000 in
theorem lc_breaks {p : Program} {l : Launch} {e : Env} {s : State} {m : MethodId} {b : Nat} {below : List Frame} {meth : Method} {c : Code} {D : va_G} {dA : Nat → ClassId} {Q : State → Prop} {sd : Int64} {L : Nat} {xs : Nat → Int32} {n i : Nat} (hlt : l.stackTraces = false) (C0 : lwC p s m meth c D dA b L xs) (hn : n < 512) (hi : i + 5 ≤ L) (kk : lwK p l e s m b below meth c D dA Q sd 1511 (n + 1) i) : lwK p l e s m b below meth c D dA Q sd 1043 n i := by
  obtain ⟨⟨hx, hb, hr, hml, hown⟩, hts, ⟨hX, hbl, hL⟩, hlocks, hC⟩ := C0
  have hT : ∀ w ∈ mBig, w.before _ s = true := fun w h => hts w (List.mem_cons_of_mem _ h)
  have hA : ∀ q : Nat, s.heap.size ≤ q → (fun q => s.heap.size ≤ q) q := fun q h => h
  intro ad x y f ls H locs hK hl hm
  obtain ⟨I, J, F, si, tc, oc⟩ := x
  obtain ⟨A, B, S⟩ := y
  replace hl : lv_has ls 8 [(0, .ref b), (1, .ref (ad 0)), (2, .ref (ad 1000)), (3, .ref (ad 2000)), (4, .int (nI i))] := hl
  replace hm : mS D mCl (fun q => s.heap.size ≤ q) s.heap ad (gM dA ad A B S sd (gE dA ad I J F si tc oc (gO dA f))) H locs := hm
  refine lv_aload_n hx hb d_L_law_1043 rfl (lv_at hl 1 rfl) ?_
  refine lw_arg hx hb hX hbl hL hm (lv_at hl 0 rfl) (lv_at hl 4 rfl) 1 (by decide) hi d_L_law_1044 d_L_law_1045 d_L_law_1047 (by decide) d_L_law_1048 d_L_law_1049 ?_
  refine lw_arg hx hb hX hbl hL hm (lv_at hl 0 rfl) (lv_at hl 4 rfl) 2 (by decide) hi d_L_law_1050 d_L_law_1051 d_L_law_1053 (by decide) d_L_law_1054 d_L_law_1055 ?_
  refine lv_aload_n hx hb d_L_law_1056 rfl (lv_at hl 3 rfl) ?_
  refine m_calli (m_runSW (As := [.ref (ad 0), .int (xs (i + 1)), .int (xs (i + 2)), .ref (ad 2000)]) (rest := []) ⟨hx, hb, hml, hown, hts⟩ (c_L_breaks l hlt D dA ad (gM dA ad A B S sd (gE dA ad I J F si tc oc (gO dA f))) H.size I J F si tc oc (gM dA ad A B S sd (gO dA f)) gEM.symm hK.ht hK.hL (xs (i + 1)) (xs (i + 2)) hK.ho f ((gM_out (Or.inr (by decide))).trans gO_at)) (vx_cwSW 4 hts (gS k_459 k_457 k_458 k_0) rfl rfl rfl (by decide +kernel) ⟨Nat.le_of_ble_eq_true rfl, Nat.le_of_ble_eq_true rfl⟩) hm hA hC rfl hl.1 rfl (Nat.le_of_ble_eq_true rfl) d_L_law_1057 ⟨by show _ ≤ 601024; omega, by show _ ≤ 7293000; omega⟩) hm hA (fun r_1 ad_4 G_3 H locs w_2 hm => ?_)
  obtain ⟨ad1, x1, f1, had, hu9, hrel⟩ := w_2
  obtain ⟨ea9, eg9⟩ := Prod.mk.inj hu9
  have hm : mS D mCl (fun q => s.heap.size ≤ q) s.heap ad1 (gM dA ad1 A B S sd (gEx dA ad1 x1 (gO dA f1))) H locs := by
    rw [ea9, eg9, law_w1 (fun k hk => had k (Or.inr hk))] at hm
    exact hm
  have hl : lv_has ls 8 [(0, .ref b), (1, .ref (ad1 0)), (2, .ref (ad1 1000)), (3, .ref (ad1 2000)), (4, .int (nI i))] := by
    rw [had 0 (Or.inl rfl), had 1000 (Or.inr (by decide)), had 2000 (Or.inr (by decide))]
    exact hl
  refine lv_istore (lv' := [(5, .int r_1), (0, .ref b), (1, .ref (ad1 0)), (2, .ref (ad1 1000)), (3, .ref (ad1 2000)), (4, .int (nI i))]) hx hb d_L_law_1060 hl (by decide) rfl (fun ls hl => ?_)
  refine lv_aload_n hx hb d_L_law_1062 rfl (lv_at hl 3 rfl) ?_
  refine lw_arg hx hb hX hbl hL hm (lv_at hl 1 rfl) (lv_at hl 5 rfl) 1 (by decide) hi d_L_law_1063 d_L_law_1064 d_L_law_1066 (by decide) d_L_law_1067 d_L_law_1068 ?_
  refine lw_arg hx hb hX hbl hL hm (lv_at hl 1 rfl) (lv_at hl 5 rfl) 2 (by decide) hi d_L_law_1069 d_L_law_1070 d_L_law_1072 (by decide) d_L_law_1073 d_L_law_1074 ?_
  refine m_calli (m_runV (As := [.int (xs (i + 1)), .int (xs (i + 2))]) (rest := []) ⟨hx, hb, hml, hown, hts⟩ (c_M_breaks l D dA ad1 (gM dA ad1 A B S sd (gEx dA ad1 x1 (gO dA f1))) H.size A B S sd (gEx dA ad1 x1 (gO dA f1)) rfl hK.hLM (xs (i + 1)) (xs (i + 2))) (cwV 2 hts (gV k_771 k_768 k_769 k_770 k_4) rfl rfl rfl (by decide +kernel) ⟨Nat.le_of_ble_eq_true rfl, Nat.le_of_ble_eq_true rfl⟩) hm hA hC 1000 rfl gM_o rfl rfl rfl hl.1 rfl (Nat.le_of_ble_eq_true rfl) d_L_law_1075 ⟨by show _ ≤ 601024; omega, by show _ ≤ 7293000; omega⟩) hm hA (fun r_5 ad_8 G_7 H locs w_6 hm => ?_)
  obtain ⟨y1, hu8, hrM⟩ := kM_breaks w_6
  obtain ⟨ea8, eg8⟩ := Prod.mk.inj hu8
  have hm : mS D mCl (fun q => s.heap.size ≤ q) s.heap ad1 (gM dA ad1 y1.1 y1.2.1 y1.2.2 sd (gEx dA ad1 x1 (gO dA f1))) H locs := by
    rw [ea8, eg8] at hm
    exact hm
  obtain ⟨hk9, ho9, hK9⟩ := cp_breaks hK hrel hrM
  refine lv_istore (lv' := [(6, .int r_5), (5, .int r_1), (0, .ref b), (1, .ref (ad1 0)), (2, .ref (ad1 1000)), (3, .ref (ad1 2000)), (4, .int (nI i))]) hx hb d_L_law_1078 hl (by decide) rfl (fun ls hl => ?_)
  refine lv_aload_n hx hb d_L_law_1080 rfl (lv_at hl 4 rfl) ?_
  refine m_roi (m_runV (As := []) (rest := []) ⟨hx, hb, hml, hown, hts⟩ (c_M_thrown l D dA ad1 (gM dA ad1 y1.1 y1.2.1 y1.2.2 sd (gEx dA ad1 x1 (gO dA f1))) H.size y1.1 y1.2.1 y1.2.2 sd (gEx dA ad1 x1 (gO dA f1)) rfl) (cwV 0 hts (gV k_680 k_677 k_678 k_679 k_4) rfl rfl rfl (by decide +kernel) ⟨Nat.le_of_ble_eq_true rfl, Nat.le_of_ble_eq_true rfl⟩) hm hA hC 1000 rfl gM_o rfl rfl rfl hl.1 rfl (Nat.le_of_ble_eq_true rfl) d_L_law_1081 ⟨by show _ ≤ 601024; omega, by show _ ≤ 7293000; omega⟩) hm hA (fun r_9 H locs w_10 hm => ?_)
  refine lv_iload hx hb d_L_law_1084 (lv_at hl 1 rfl) ?_
  refine lv_icmp_eq (tgt := 1091) hx hb d_L_law_1086 (by decide) (fun _ => ?_) (fun c9 => absurd (w_10.trans hk9) c9)
  refine lv_iload hx hb d_L_law_1091 (lv_at hl 1 rfl) ?_
  refine lv_if_ne (tgt := 1108) hx hb d_L_law_1093 (by decide) (fun _ => ?_) (fun c0 => ?_)
  · refine lv_goto (tgt := 1511) hx hb d_L_law_1108 (by decide) ?_
    refine W.widen (k := 36 + 4 * (n + 1)) (n := 1300 + 42 * (n + 1)) (by omega) (by omega) ?_
    exact kk ad1 x1 y1 f1 ls H locs hK9 (lv_sub hl [2, 3, 4, 5, 6] rfl) hm
  · refine lv_aload_n hx hb d_L_law_1096 rfl (lv_at hl 5 rfl) ?_
    refine lv_iconst (v := 0) hx hb d_L_law_1097 (by decide) ?_
    refine m_lald (v := f1 0) hx hb hC.1 hm 2000 rfl 1 ((gM_out (Or.inr (by decide))).trans ((gE_out (by decide)).trans gO_at)) rfl (vpc _ _ (by decide)) rfl d_L_law_1098 ?_
    refine lv_iload hx hb d_L_law_1099 (lv_at hl 0 rfl) ?_
    refine lv_i2l hx hb d_L_law_1101 rfl ?_
    refine lv_topl (fun x_11 ex_11 => ?_)
    refine W.lcmp hx hb d_L_law_1102 ?_
    refine lv_if_eq (tgt := 1108) hx hb d_L_law_1103 (by decide) (fun _ => ?_) (fun c9 => absurd ((lg_eq _ _).mpr ((ho9 c0).trans ex_11.symm)) c9)
    refine lv_goto (tgt := 1511) hx hb d_L_law_1108 (by decide) ?_
    refine W.widen (k := 36 + 4 * (n + 1)) (n := 1300 + 42 * (n + 1)) (by omega) (by omega) ?_
    exact kk ad1 x1 y1 f1 ls H locs hK9 (lv_sub hl [2, 3, 4, 5, 6] rfl) hm
set_option maxHeartbeats 4000000 in
set_option maxRecDepth 100000 in
theorem lc_rules {p : Program} {l : Launch} {e : Env} {s : State} {m : MethodId} {b : Nat} {below : List Frame} {meth : Method} {c : Code} {D : va_G} {dA : Nat → ClassId} {Q : State → Prop} {sd : Int64} {L : Nat} {xs : Nat → Int32} {n i : Nat} (hlt : l.stackTraces = false) (C0 : lwC p s m meth c D dA b L xs) (hn : n < 512) (hi : i + 5 ≤ L) (kk : lwK p l e s m b below meth c D dA Q sd 1511 (n + 1) i) : lwK p l e s m b below meth c D dA Q sd 1111 n i := by
  obtain ⟨⟨hx, hb, hr, hml, hown⟩, hts, ⟨hX, hbl, hL⟩, hlocks, hC⟩ := C0
  have hT : ∀ w ∈ mBig, w.before _ s = true := fun w h => hts w (List.mem_cons_of_mem _ h)
  have hA : ∀ q : Nat, s.heap.size ≤ q → (fun q => s.heap.size ≤ q) q := fun q h => h
  intro ad x y f ls H locs hK hl hm
  obtain ⟨I, J, F, si, tc, oc⟩ := x
  obtain ⟨A, B, S⟩ := y
  replace hl : lv_has ls 8 [(0, .ref b), (1, .ref (ad 0)), (2, .ref (ad 1000)), (3, .ref (ad 2000)), (4, .int (nI i))] := hl
  replace hm : mS D mCl (fun q => s.heap.size ≤ q) s.heap ad (gM dA ad A B S sd (gE dA ad I J F si tc oc (gO dA f))) H locs := hm
  refine lv_aload_n hx hb d_L_law_1111 rfl (lv_at hl 1 rfl) ?_
  refine lw_arg hx hb hX hbl hL hm (lv_at hl 0 rfl) (lv_at hl 4 rfl) 1 (by decide) hi d_L_law_1112 d_L_law_1113 d_L_law_1115 (by decide) d_L_law_1116 d_L_law_1117 ?_
  refine lw_arg hx hb hX hbl hL hm (lv_at hl 0 rfl) (lv_at hl 4 rfl) 2 (by decide) hi d_L_law_1118 d_L_law_1119 d_L_law_1121 (by decide) d_L_law_1122 d_L_law_1123 ?_
  refine lw_arg hx hb hX hbl hL hm (lv_at hl 0 rfl) (lv_at hl 4 rfl) 3 (by decide) hi d_L_law_1124 d_L_law_1125 d_L_law_1127 (by decide) d_L_law_1128 d_L_law_1129 ?_
  refine lw_arg hx hb hX hbl hL hm (lv_at hl 0 rfl) (lv_at hl 4 rfl) 4 (by decide) hi d_L_law_1130 d_L_law_1131 d_L_law_1133 (by decide) d_L_law_1134 d_L_law_1135 ?_
  refine m_calli (m_runSW (As := [.ref (ad 0), .int (xs (i + 1)), .int (xs (i + 2)), .int (xs (i + 3)), .int (xs (i + 4))]) (rest := []) ⟨hx, hb, hml, hown, hts⟩ (c_L_rules l hlt D dA ad (gM dA ad A B S sd (gE dA ad I J F si tc oc (gO dA f))) H.size I J F si tc oc (gM dA ad A B S sd (gO dA f)) gEM.symm hK.ht (xs (i + 1)) (xs (i + 2)) (xs (i + 3)) (xs (i + 4)) hK.ho) (vx_cwSW 5 hts (gS k_475 k_473 k_474 k_0) rfl rfl rfl (by decide +kernel) ⟨Nat.le_of_ble_eq_true rfl, Nat.le_of_ble_eq_true rfl⟩) hm hA hC rfl hl.1 rfl (Nat.le_of_ble_eq_true rfl) d_L_law_1136 ⟨by show _ ≤ 601024; omega, by show _ ≤ 7293000; omega⟩) hm hA (fun r_1 ad_4 G_3 H locs w_2 hm => ?_)
  obtain ⟨ad1, x1, had, hu9, hrel⟩ := w_2
  obtain ⟨ea9, eg9⟩ := Prod.mk.inj hu9
  have hm : mS D mCl (fun q => s.heap.size ≤ q) s.heap ad1 (gM dA ad1 A B S sd (gEx dA ad1 x1 (gO dA f))) H locs := by
    rw [ea9, eg9, law_w2 (fun k hk => had k (Or.inr hk))] at hm
    exact hm
  have hl : lv_has ls 8 [(0, .ref b), (1, .ref (ad1 0)), (2, .ref (ad1 1000)), (3, .ref (ad1 2000)), (4, .int (nI i))] := by
    rw [had 0 (Or.inl rfl), had 1000 (Or.inr (by decide)), had 2000 (Or.inr (by decide))]
    exact hl
  refine lv_istore (lv' := [(5, .int r_1), (0, .ref b), (1, .ref (ad1 0)), (2, .ref (ad1 1000)), (3, .ref (ad1 2000)), (4, .int (nI i))]) hx hb d_L_law_1139 hl (by decide) rfl (fun ls hl => ?_)
  refine lv_aload_n hx hb d_L_law_1141 rfl (lv_at hl 3 rfl) ?_
  refine lw_arg hx hb hX hbl hL hm (lv_at hl 1 rfl) (lv_at hl 5 rfl) 1 (by decide) hi d_L_law_1142 d_L_law_1143 d_L_law_1145 (by decide) d_L_law_1146 d_L_law_1147 ?_
  refine lw_arg hx hb hX hbl hL hm (lv_at hl 1 rfl) (lv_at hl 5 rfl) 2 (by decide) hi d_L_law_1148 d_L_law_1149 d_L_law_1151 (by decide) d_L_law_1152 d_L_law_1153 ?_
  refine lw_arg hx hb hX hbl hL hm (lv_at hl 1 rfl) (lv_at hl 5 rfl) 3 (by decide) hi d_L_law_1154 d_L_law_1155 d_L_law_1157 (by decide) d_L_law_1158 d_L_law_1159 ?_
  refine lw_arg hx hb hX hbl hL hm (lv_at hl 1 rfl) (lv_at hl 5 rfl) 4 (by decide) hi d_L_law_1160 d_L_law_1161 d_L_law_1163 (by decide) d_L_law_1164 d_L_law_1165 ?_
  refine m_callv (m_runV (As := [.int (xs (i + 1)), .int (xs (i + 2)), .int (xs (i + 3)), .int (xs (i + 4))]) (rest := []) ⟨hx, hb, hml, hown, hts⟩ (c_M_rules l D dA ad1 (gM dA ad1 A B S sd (gEx dA ad1 x1 (gO dA f))) H.size A B S sd (gEx dA ad1 x1 (gO dA f)) rfl (xs (i + 1)) (xs (i + 2)) (xs (i + 3)) (xs (i + 4))) (cwV 4 hts (gV k_779 k_776 k_777 k_778 k_4) rfl rfl rfl (by decide +kernel) ⟨Nat.le_of_ble_eq_true rfl, Nat.le_of_ble_eq_true rfl⟩) hm hA hC 1000 rfl gM_o rfl rfl rfl hl.1 rfl (Nat.le_of_ble_eq_true rfl) d_L_law_1166 ⟨by show _ ≤ 601024; omega, by show _ ≤ 7293000; omega⟩) hm hA (fun ad_8 G_7 H locs w_6 hm => ?_)
  obtain ⟨y1, hu8, hrM⟩ := kM_rules w_6
  obtain ⟨ea8, eg8⟩ := Prod.mk.inj hu8
  have hm : mS D mCl (fun q => s.heap.size ≤ q) s.heap ad1 (gM dA ad1 y1.1 y1.2.1 y1.2.2 sd (gEx dA ad1 x1 (gO dA f))) H locs := by
    rw [ea8, eg8] at hm
    exact hm
  obtain ⟨hk9, hK9⟩ := cp_rules hK hrel hrM
  refine lv_aload_n hx hb d_L_law_1169 rfl (lv_at hl 3 rfl) ?_
  refine m_roi (m_runV (As := []) (rest := []) ⟨hx, hb, hml, hown, hts⟩ (c_M_thrown l D dA ad1 (gM dA ad1 y1.1 y1.2.1 y1.2.2 sd (gEx dA ad1 x1 (gO dA f))) H.size y1.1 y1.2.1 y1.2.2 sd (gEx dA ad1 x1 (gO dA f)) rfl) (cwV 0 hts (gV k_680 k_677 k_678 k_679 k_4) rfl rfl rfl (by decide +kernel) ⟨Nat.le_of_ble_eq_true rfl, Nat.le_of_ble_eq_true rfl⟩) hm hA hC 1000 rfl gM_o rfl rfl rfl hl.1 rfl (Nat.le_of_ble_eq_true rfl) d_L_law_1170 ⟨by show _ ≤ 601024; omega, by show _ ≤ 7293000; omega⟩) hm hA (fun r_9 H locs w_10 hm => ?_)
  refine lv_iload hx hb d_L_law_1173 (lv_at hl 0 rfl) ?_
  refine lv_icmp_eq (tgt := 1180) hx hb d_L_law_1175 (by decide) (fun _ => ?_) (fun c9 => absurd (w_10.trans hk9) c9)
  refine lv_goto (tgt := 1511) hx hb d_L_law_1180 (by decide) ?_
  refine W.widen (k := 36 + 4 * (n + 1)) (n := 1300 + 42 * (n + 1)) (by omega) (by omega) ?_
  exact kk ad1 x1 y1 f ls H locs hK9 (lv_sub hl [1, 2, 3, 4, 5] rfl) hm
