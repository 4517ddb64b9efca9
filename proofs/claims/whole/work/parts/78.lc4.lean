set_option maxHeartbeats 4000000 in
set_option maxRecDepth 100000 in
theorem lc_power {p : Program} {l : Launch} {e : Env} {s : State} {m : MethodId} {b : Nat} {below : List Frame} {meth : Method} {c : Code} {D : va_G} {dA : Nat → ClassId} {Q : State → Prop} {sd : Int64} {L : Nat} {xs : Nat → Int32} {n i : Nat} (hlt : l.stackTraces = false) (C0 : lwC p s m meth c D dA b L xs) (hn : n < 512) (hi : i + 5 ≤ L) (kk : lwK p l e s m b below meth c D dA Q sd 1511 (n + 1) i) : lwK p l e s m b below meth c D dA Q sd 1183 n i := by
  obtain ⟨⟨hx, hb, hr, hml, hown⟩, hts, ⟨hX, hbl, hL⟩, hlocks, hC⟩ := C0
  have hT : ∀ w ∈ mBig, w.before _ s = true := fun w h => hts w (List.mem_cons_of_mem _ h)
  have hA : ∀ q : Nat, s.heap.size ≤ q → (fun q => s.heap.size ≤ q) q := fun q h => h
  intro ad x y f ls H locs hK hl hm
  obtain ⟨I, J, F, si, tc, oc⟩ := x
  obtain ⟨A, B, S⟩ := y
  replace hl : lv_has ls 8 [(0, .ref b), (1, .ref (ad 0)), (2, .ref (ad 1000)), (3, .ref (ad 2000)), (4, .int (nI i))] := hl
  replace hm : mS D mCl (fun q => s.heap.size ≤ q) s.heap ad (gM dA ad A B S sd (gE dA ad I J F si tc oc (gO dA f))) H locs := hm
  refine lv_aload_n hx hb d_L_law_1183 rfl (lv_at hl 1 rfl) ?_
  refine lw_arg hx hb hX hbl hL hm (lv_at hl 0 rfl) (lv_at hl 4 rfl) 1 (by decide) hi d_L_law_1184 d_L_law_1185 d_L_law_1187 (by decide) d_L_law_1188 d_L_law_1189 ?_
  refine lw_arg hx hb hX hbl hL hm (lv_at hl 0 rfl) (lv_at hl 4 rfl) 2 (by decide) hi d_L_law_1190 d_L_law_1191 d_L_law_1193 (by decide) d_L_law_1194 d_L_law_1195 ?_
  refine lw_arg hx hb hX hbl hL hm (lv_at hl 0 rfl) (lv_at hl 4 rfl) 3 (by decide) hi d_L_law_1196 d_L_law_1197 d_L_law_1199 (by decide) d_L_law_1200 d_L_law_1201 ?_
  refine lv_aload_n hx hb d_L_law_1202 rfl (lv_at hl 3 rfl) ?_
  refine m_calli (m_runSW (As := [.ref (ad 0), .int (xs (i + 1)), .int (xs (i + 2)), .int (xs (i + 3)), .ref (ad 2000)]) (rest := []) ⟨hx, hb, hml, hown, hts⟩ (c_L_power l hlt D dA ad (gM dA ad A B S sd (gE dA ad I J F si tc oc (gO dA f))) H.size I J F si tc oc (gM dA ad A B S sd (gO dA f)) gEM.symm hK.ht hK.hR (xs (i + 1)) (xs (i + 2)) (xs (i + 3)) hK.ho f ((gM_out (Or.inr (by decide))).trans gO_at)) (vx_cwSW 5 hts (gS k_484 k_482 k_483 k_0) rfl rfl rfl (by decide +kernel) ⟨Nat.le_of_ble_eq_true rfl, Nat.le_of_ble_eq_true rfl⟩) hm hA hC rfl hl.1 rfl (Nat.le_of_ble_eq_true rfl) d_L_law_1203 ⟨by show _ ≤ 601024; omega, by show _ ≤ 7293000; omega⟩) hm hA (fun r_1 ad_4 G_3 H locs w_2 hm => ?_)
  obtain ⟨ad1, x1, f1, had, hu9, hrel⟩ := w_2
  obtain ⟨ea9, eg9⟩ := Prod.mk.inj hu9
  have hm : mS D mCl (fun q => s.heap.size ≤ q) s.heap ad1 (gM dA ad1 A B S sd (gEx dA ad1 x1 (gO dA f1))) H locs := by
    rw [ea9, eg9, law_w1 (fun k hk => had k (Or.inr hk))] at hm
    exact hm
  have hl : lv_has ls 8 [(0, .ref b), (1, .ref (ad1 0)), (2, .ref (ad1 1000)), (3, .ref (ad1 2000)), (4, .int (nI i))] := by
    rw [had 0 (Or.inl rfl), had 1000 (Or.inr (by decide)), had 2000 (Or.inr (by decide))]
    exact hl
  refine lv_istore (lv' := [(5, .int r_1), (0, .ref b), (1, .ref (ad1 0)), (2, .ref (ad1 1000)), (3, .ref (ad1 2000)), (4, .int (nI i))]) hx hb d_L_law_1206 hl (by decide) rfl (fun ls hl => ?_)
  refine lv_aload_n hx hb d_L_law_1208 rfl (lv_at hl 3 rfl) ?_
  refine lw_arg hx hb hX hbl hL hm (lv_at hl 1 rfl) (lv_at hl 5 rfl) 1 (by decide) hi d_L_law_1209 d_L_law_1210 d_L_law_1212 (by decide) d_L_law_1213 d_L_law_1214 ?_
  refine lw_arg hx hb hX hbl hL hm (lv_at hl 1 rfl) (lv_at hl 5 rfl) 2 (by decide) hi d_L_law_1215 d_L_law_1216 d_L_law_1218 (by decide) d_L_law_1219 d_L_law_1220 ?_
  refine lw_arg hx hb hX hbl hL hm (lv_at hl 1 rfl) (lv_at hl 5 rfl) 3 (by decide) hi d_L_law_1221 d_L_law_1222 d_L_law_1224 (by decide) d_L_law_1225 d_L_law_1226 ?_
  obtain ⟨R, hR1, hR2, hR⟩ : ∃ R, 1 ≤ R ∧ R ≤ 11 ∧ S 18 = nI (R + 1) := by
    obtain ⟨k9, g1, g2, g3⟩ := hK.hR
    exact ⟨k9 - 1, by omega, by omega, by rw [show k9 - 1 + 1 = k9 by omega]; exact hK.1.2.2.1.trans g3⟩
  refine m_calli (m_runV (As := [.int (xs (i + 1)), .int (xs (i + 2)), .int (xs (i + 3))]) (rest := []) ⟨hx, hb, hml, hown, hts⟩ (c_M_power l D dA ad1 (gM dA ad1 A B S sd (gEx dA ad1 x1 (gO dA f1))) H.size A B S sd (gEx dA ad1 x1 (gO dA f1)) rfl tc hK.hS hK.ht R hR hR1 hR2 hK.hH hK.hrd (xs (i + 1)) (xs (i + 2)) (xs (i + 3))) (cwV 3 hts (gV k_785 k_782 k_783 k_784 k_4) rfl rfl rfl (by decide +kernel) ⟨Nat.le_of_ble_eq_true rfl, Nat.le_of_ble_eq_true rfl⟩) hm hA hC 1000 rfl gM_o rfl rfl rfl hl.1 rfl (Nat.le_of_ble_eq_true rfl) d_L_law_1227 ⟨by show _ ≤ 601024; omega, by show _ ≤ 7293000; omega⟩) hm hA (fun r_5 ad_8 G_7 H locs w_6 hm => ?_)
  obtain ⟨y1, hu8, hrM⟩ := kM_power w_6
  obtain ⟨ea8, eg8⟩ := Prod.mk.inj hu8
  have hm : mS D mCl (fun q => s.heap.size ≤ q) s.heap ad1 (gM dA ad1 y1.1 y1.2.1 y1.2.2 sd (gEx dA ad1 x1 (gO dA f1))) H locs := by
    rw [ea8, eg8] at hm
    exact hm
  obtain ⟨hk9, ho9, hK9⟩ := cp_power hK R hR hR2 hrel hrM
  refine lv_istore (lv' := [(6, .int r_5), (5, .int r_1), (0, .ref b), (1, .ref (ad1 0)), (2, .ref (ad1 1000)), (3, .ref (ad1 2000)), (4, .int (nI i))]) hx hb d_L_law_1230 hl (by decide) rfl (fun ls hl => ?_)
  refine lv_aload_n hx hb d_L_law_1232 rfl (lv_at hl 4 rfl) ?_
  refine m_roi (m_runV (As := []) (rest := []) ⟨hx, hb, hml, hown, hts⟩ (c_M_thrown l D dA ad1 (gM dA ad1 y1.1 y1.2.1 y1.2.2 sd (gEx dA ad1 x1 (gO dA f1))) H.size y1.1 y1.2.1 y1.2.2 sd (gEx dA ad1 x1 (gO dA f1)) rfl) (cwV 0 hts (gV k_680 k_677 k_678 k_679 k_4) rfl rfl rfl (by decide +kernel) ⟨Nat.le_of_ble_eq_true rfl, Nat.le_of_ble_eq_true rfl⟩) hm hA hC 1000 rfl gM_o rfl rfl rfl hl.1 rfl (Nat.le_of_ble_eq_true rfl) d_L_law_1233 ⟨by show _ ≤ 601024; omega, by show _ ≤ 7293000; omega⟩) hm hA (fun r_9 H locs w_10 hm => ?_)
  refine lv_iload hx hb d_L_law_1236 (lv_at hl 1 rfl) ?_
  refine lv_icmp_eq (tgt := 1243) hx hb d_L_law_1238 (by decide) (fun _ => ?_) (fun c9 => absurd (w_10.trans hk9) c9)
  refine lv_iload hx hb d_L_law_1243 (lv_at hl 1 rfl) ?_
  refine lv_if_ne (tgt := 1260) hx hb d_L_law_1245 (by decide) (fun _ => ?_) (fun c0 => ?_)
  · refine lv_goto (tgt := 1511) hx hb d_L_law_1260 (by decide) ?_
    refine W.widen (k := 36 + 4 * (n + 1)) (n := 1300 + 42 * (n + 1)) (by omega) (by omega) ?_
    exact kk ad1 x1 y1 f1 ls H locs hK9 (lv_sub hl [2, 3, 4, 5, 6] rfl) hm
  · refine lv_aload_n hx hb d_L_law_1248 rfl (lv_at hl 5 rfl) ?_
    refine lv_iconst (v := 0) hx hb d_L_law_1249 (by decide) ?_
    refine m_lald (v := f1 0) hx hb hC.1 hm 2000 rfl 1 ((gM_out (Or.inr (by decide))).trans ((gE_out (by decide)).trans gO_at)) rfl (vpc _ _ (by decide)) rfl d_L_law_1250 ?_
    refine lv_iload hx hb d_L_law_1251 (lv_at hl 0 rfl) ?_
    refine lv_i2l hx hb d_L_law_1253 rfl ?_
    refine lv_topl (fun x_11 ex_11 => ?_)
    refine W.lcmp hx hb d_L_law_1254 ?_
    refine lv_if_eq (tgt := 1260) hx hb d_L_law_1255 (by decide) (fun _ => ?_) (fun c9 => absurd ((lg_eq _ _).mpr ((ho9 c0).trans ex_11.symm)) c9)
    refine lv_goto (tgt := 1511) hx hb d_L_law_1260 (by decide) ?_
    refine W.widen (k := 36 + 4 * (n + 1)) (n := 1300 + 42 * (n + 1)) (by omega) (by omega) ?_
    exact kk ad1 x1 y1 f1 ls H locs hK9 (lv_sub hl [2, 3, 4, 5, 6] rfl) hm
set_option maxHeartbeats 4000000 in
set_option maxRecDepth 100000 in
theorem lc_order {p : Program} {l : Launch} {e : Env} {s : State} {m : MethodId} {b : Nat} {below : List Frame} {meth : Method} {c : Code} {D : va_G} {dA : Nat → ClassId} {Q : State → Prop} {sd : Int64} {L : Nat} {xs : Nat → Int32} {n i : Nat} (hlt : l.stackTraces = false) (C0 : lwC p s m meth c D dA b L xs) (hn : n < 512) (hi : i + 5 ≤ L) (kk : lwK p l e s m b below meth c D dA Q sd 1511 (n + 1) i) : lwK p l e s m b below meth c D dA Q sd 1263 n i := by
  obtain ⟨⟨hx, hb, hr, hml, hown⟩, hts, ⟨hX, hbl, hL⟩, hlocks, hC⟩ := C0
  have hT : ∀ w ∈ mBig, w.before _ s = true := fun w h => hts w (List.mem_cons_of_mem _ h)
  have hA : ∀ q : Nat, s.heap.size ≤ q → (fun q => s.heap.size ≤ q) q := fun q h => h
  intro ad x y f ls H locs hK hl hm
  obtain ⟨I, J, F, si, tc, oc⟩ := x
  obtain ⟨A, B, S⟩ := y
  replace hl : lv_has ls 8 [(0, .ref b), (1, .ref (ad 0)), (2, .ref (ad 1000)), (3, .ref (ad 2000)), (4, .int (nI i))] := hl
  replace hm : mS D mCl (fun q => s.heap.size ≤ q) s.heap ad (gM dA ad A B S sd (gE dA ad I J F si tc oc (gO dA f))) H locs := hm
  refine lv_aload_n hx hb d_L_law_1263 rfl (lv_at hl 1 rfl) ?_
  refine lw_arg hx hb hX hbl hL hm (lv_at hl 0 rfl) (lv_at hl 4 rfl) 1 (by decide) hi d_L_law_1264 d_L_law_1265 d_L_law_1267 (by decide) d_L_law_1268 d_L_law_1269 ?_
  refine lw_arg hx hb hX hbl hL hm (lv_at hl 0 rfl) (lv_at hl 4 rfl) 2 (by decide) hi d_L_law_1270 d_L_law_1271 d_L_law_1273 (by decide) d_L_law_1274 d_L_law_1275 ?_
  refine lv_aload_n hx hb d_L_law_1276 rfl (lv_at hl 3 rfl) ?_
  refine m_calli (m_runSW (As := [.ref (ad 0), .int (xs (i + 1)), .int (xs (i + 2)), .ref (ad 2000)]) (rest := []) ⟨hx, hb, hml, hown, hts⟩ (c_L_order l hlt D dA ad (gM dA ad A B S sd (gE dA ad I J F si tc oc (gO dA f))) H.size I J F si tc oc (gM dA ad A B S sd (gO dA f)) gEM.symm hK.ht hK.ho hK.hs (xs (i + 1)) (xs (i + 2)) f ((gM_out (Or.inr (by decide))).trans gO_at)) (vx_cwSW 4 hts (gS k_528 k_526 k_527 k_0) rfl rfl rfl (by decide +kernel) ⟨Nat.le_of_ble_eq_true rfl, Nat.le_of_ble_eq_true rfl⟩) hm hA hC rfl hl.1 rfl (Nat.le_of_ble_eq_true rfl) d_L_law_1277 ⟨by show _ ≤ 601024; omega, by show _ ≤ 7293000; omega⟩) hm hA (fun r_1 ad_4 G_3 H locs w_2 hm => ?_)
  obtain ⟨ad1, x1, f1, had, hu9, hrel⟩ := w_2
  obtain ⟨ea9, eg9⟩ := Prod.mk.inj hu9
  have hm : mS D mCl (fun q => s.heap.size ≤ q) s.heap ad1 (gM dA ad1 A B S sd (gEx dA ad1 x1 (gO dA f1))) H locs := by
    rw [ea9, eg9, law_w1 (fun k hk => had k (Or.inr hk))] at hm
    exact hm
  have hl : lv_has ls 8 [(0, .ref b), (1, .ref (ad1 0)), (2, .ref (ad1 1000)), (3, .ref (ad1 2000)), (4, .int (nI i))] := by
    rw [had 0 (Or.inl rfl), had 1000 (Or.inr (by decide)), had 2000 (Or.inr (by decide))]
    exact hl
  refine lv_istore (lv' := [(5, .int r_1), (0, .ref b), (1, .ref (ad1 0)), (2, .ref (ad1 1000)), (3, .ref (ad1 2000)), (4, .int (nI i))]) hx hb d_L_law_1280 hl (by decide) rfl (fun ls hl => ?_)
  refine lv_aload_n hx hb d_L_law_1282 rfl (lv_at hl 3 rfl) ?_
  refine lw_arg hx hb hX hbl hL hm (lv_at hl 1 rfl) (lv_at hl 5 rfl) 1 (by decide) hi d_L_law_1283 d_L_law_1284 d_L_law_1286 (by decide) d_L_law_1287 d_L_law_1288 ?_
  refine lw_arg hx hb hX hbl hL hm (lv_at hl 1 rfl) (lv_at hl 5 rfl) 2 (by decide) hi d_L_law_1289 d_L_law_1290 d_L_law_1292 (by decide) d_L_law_1293 d_L_law_1294 ?_
  obtain ⟨on, to, hO9⟩ : ∃ (on : Nat) (to : Nat → Nat), kO I tc oc A S on to := hK.2.2.2.2.2
  refine m_calli (m_runV (As := [.int (xs (i + 1)), .int (xs (i + 2))]) (rest := []) ⟨hx, hb, hml, hown, hts⟩ (c_M_order l D dA ad1 (gM dA ad1 A B S sd (gEx dA ad1 x1 (gO dA f1))) H.size A B S sd (gEx dA ad1 x1 (gO dA f1)) rfl tc hK.hS hK.ht on oc hO9.2.1 hO9.2.2.1 hO9.2.2.2.1 hO9.1 (xs (i + 1)) (xs (i + 2))) (cwV 2 hts (gV k_800 k_797 k_798 k_799 k_4) rfl rfl rfl (by decide +kernel) ⟨Nat.le_of_ble_eq_true rfl, Nat.le_of_ble_eq_true rfl⟩) hm hA hC 1000 rfl gM_o rfl rfl rfl hl.1 rfl (Nat.le_of_ble_eq_true rfl) d_L_law_1295 ⟨by show _ ≤ 601024; omega, by show _ ≤ 7293000; omega⟩) hm hA (fun r_5 ad_8 G_7 H locs w_6 hm => ?_)
  obtain ⟨y1, hu8, hrM⟩ := kM_order w_6
  obtain ⟨ea8, eg8⟩ := Prod.mk.inj hu8
  have hm : mS D mCl (fun q => s.heap.size ≤ q) s.heap ad1 (gM dA ad1 y1.1 y1.2.1 y1.2.2 sd (gEx dA ad1 x1 (gO dA f1))) H locs := by
    rw [ea8, eg8] at hm
    exact hm
  obtain ⟨hk9, ho9, hK9⟩ := cp_order hK on to hO9 hrel hrM
  refine lv_istore (lv' := [(6, .int r_5), (5, .int r_1), (0, .ref b), (1, .ref (ad1 0)), (2, .ref (ad1 1000)), (3, .ref (ad1 2000)), (4, .int (nI i))]) hx hb d_L_law_1298 hl (by decide) rfl (fun ls hl => ?_)
  refine lv_aload_n hx hb d_L_law_1300 rfl (lv_at hl 4 rfl) ?_
  refine m_roi (m_runV (As := []) (rest := []) ⟨hx, hb, hml, hown, hts⟩ (c_M_thrown l D dA ad1 (gM dA ad1 y1.1 y1.2.1 y1.2.2 sd (gEx dA ad1 x1 (gO dA f1))) H.size y1.1 y1.2.1 y1.2.2 sd (gEx dA ad1 x1 (gO dA f1)) rfl) (cwV 0 hts (gV k_680 k_677 k_678 k_679 k_4) rfl rfl rfl (by decide +kernel) ⟨Nat.le_of_ble_eq_true rfl, Nat.le_of_ble_eq_true rfl⟩) hm hA hC 1000 rfl gM_o rfl rfl rfl hl.1 rfl (Nat.le_of_ble_eq_true rfl) d_L_law_1301 ⟨by show _ ≤ 601024; omega, by show _ ≤ 7293000; omega⟩) hm hA (fun r_9 H locs w_10 hm => ?_)
  refine lv_iload hx hb d_L_law_1304 (lv_at hl 1 rfl) ?_
  refine lv_icmp_eq (tgt := 1311) hx hb d_L_law_1306 (by decide) (fun _ => ?_) (fun c9 => absurd (w_10.trans hk9) c9)
  refine lv_iload hx hb d_L_law_1311 (lv_at hl 1 rfl) ?_
  refine lv_if_ne (tgt := 1335) hx hb d_L_law_1313 (by decide) (fun _ => ?_) (fun c0 => ?_)
  · refine lv_goto (tgt := 1511) hx hb d_L_law_1335 (by decide) ?_
    refine W.widen (k := 36 + 4 * (n + 1)) (n := 1300 + 42 * (n + 1)) (by omega) (by omega) ?_
    exact kk ad1 x1 y1 f1 ls H locs hK9 (lv_sub hl [2, 3, 4, 5, 6] rfl) hm
  · refine lv_aload_n hx hb d_L_law_1316 rfl (lv_at hl 5 rfl) ?_
    refine lv_iconst (v := 0) hx hb d_L_law_1317 (by decide) ?_
    refine m_lald (v := f1 0) hx hb hC.1 hm 2000 rfl 1 ((gM_out (Or.inr (by decide))).trans ((gE_out (by decide)).trans gO_at)) rfl (vpc _ _ (by decide)) rfl d_L_law_1318 ?_
    refine lv_iload hx hb d_L_law_1319 (lv_at hl 0 rfl) ?_
    refine lv_if_eq (tgt := 1328) hx hb d_L_law_1321 (by decide) (fun c1 => ?_) (fun c1 => ?_)
    · refine lv_lconst (v := 0) hx hb d_L_law_1328 (by decide) ?_
      refine W.lcmp hx hb d_L_law_1329 ?_
      refine lv_if_eq (tgt := 1335) hx hb d_L_law_1330 (by decide) (fun _ => ?_) (fun c9 => absurd ((lg_eq _ _).mpr ((ho9 c0).trans (if_pos c1))) c9)
      refine lv_goto (tgt := 1511) hx hb d_L_law_1335 (by decide) ?_
      refine W.widen (k := 36 + 4 * (n + 1)) (n := 1300 + 42 * (n + 1)) (by omega) (by omega) ?_
      exact kk ad1 x1 y1 f1 ls H locs hK9 (lv_sub hl [2, 3, 4, 5, 6] rfl) hm
    · refine lv_lconst (v := 1) hx hb d_L_law_1324 (by decide) ?_
      refine lv_goto (tgt := 1329) hx hb d_L_law_1325 (by decide) ?_
      refine W.lcmp hx hb d_L_law_1329 ?_
      refine lv_if_eq (tgt := 1335) hx hb d_L_law_1330 (by decide) (fun _ => ?_) (fun c9 => absurd ((lg_eq _ _).mpr ((ho9 c0).trans (if_neg c1))) c9)
      refine lv_goto (tgt := 1511) hx hb d_L_law_1335 (by decide) ?_
      refine W.widen (k := 36 + 4 * (n + 1)) (n := 1300 + 42 * (n + 1)) (by omega) (by omega) ?_
      exact kk ad1 x1 y1 f1 ls H locs hK9 (lv_sub hl [2, 3, 4, 5, 6] rfl) hm
set_option maxHeartbeats 4000000 in
set_option maxRecDepth 100000 in
theorem lc_joined {p : Program} {l : Launch} {e : Env} {s : State} {m : MethodId} {b : Nat} {below : List Frame} {meth : Method} {c : Code} {D : va_G} {dA : Nat → ClassId} {Q : State → Prop} {sd : Int64} {L : Nat} {xs : Nat → Int32} {n i : Nat} (hlt : l.stackTraces = false) (C0 : lwC p s m meth c D dA b L xs) (hn : n < 512) (hi : i + 5 ≤ L) (kk : lwK p l e s m b below meth c D dA Q sd 1511 (n + 1) i) : lwK p l e s m b below meth c D dA Q sd 1338 n i := by
  obtain ⟨⟨hx, hb, hr, hml, hown⟩, hts, ⟨hX, hbl, hL⟩, hlocks, hC⟩ := C0
  have hT : ∀ w ∈ mBig, w.before _ s = true := fun w h => hts w (List.mem_cons_of_mem _ h)
  have hA : ∀ q : Nat, s.heap.size ≤ q → (fun q => s.heap.size ≤ q) q := fun q h => h
  intro ad x y f ls H locs hK hl hm
  obtain ⟨I, J, F, si, tc, oc⟩ := x
  obtain ⟨A, B, S⟩ := y
  replace hl : lv_has ls 8 [(0, .ref b), (1, .ref (ad 0)), (2, .ref (ad 1000)), (3, .ref (ad 2000)), (4, .int (nI i))] := hl
  replace hm : mS D mCl (fun q => s.heap.size ≤ q) s.heap ad (gM dA ad A B S sd (gE dA ad I J F si tc oc (gO dA f))) H locs := hm
  refine lv_aload_n hx hb d_L_law_1338 rfl (lv_at hl 1 rfl) ?_
  refine lw_arg hx hb hX hbl hL hm (lv_at hl 0 rfl) (lv_at hl 4 rfl) 1 (by decide) hi d_L_law_1339 d_L_law_1340 d_L_law_1342 (by decide) d_L_law_1343 d_L_law_1344 ?_
  refine lw_arg hx hb hX hbl hL hm (lv_at hl 0 rfl) (lv_at hl 4 rfl) 2 (by decide) hi d_L_law_1345 d_L_law_1346 d_L_law_1348 (by decide) d_L_law_1349 d_L_law_1350 ?_
  refine lv_aload_n hx hb d_L_law_1351 rfl (lv_at hl 3 rfl) ?_
  refine m_calli (m_runSW (As := [.ref (ad 0), .int (xs (i + 1)), .int (xs (i + 2)), .ref (ad 2000)]) (rest := []) ⟨hx, hb, hml, hown, hts⟩ (c_L_joined l hlt D dA ad (gM dA ad A B S sd (gE dA ad I J F si tc oc (gO dA f))) H.size I J F si tc oc (gM dA ad A B S sd (gO dA f)) gEM.symm hK.ht hK.ho (xs (i + 1)) (xs (i + 2)) f ((gM_out (Or.inr (by decide))).trans gO_at)) (vx_cwSW 4 hts (gS k_552 k_550 k_551 k_0) rfl rfl rfl (by decide +kernel) ⟨Nat.le_of_ble_eq_true rfl, Nat.le_of_ble_eq_true rfl⟩) hm hA hC rfl hl.1 rfl (Nat.le_of_ble_eq_true rfl) d_L_law_1352 ⟨by show _ ≤ 601024; omega, by show _ ≤ 7293000; omega⟩) hm hA (fun r_1 ad_4 G_3 H locs w_2 hm => ?_)
  obtain ⟨ad1, x1, f1, had, hu9, hrel⟩ := w_2
  obtain ⟨ea9, eg9⟩ := Prod.mk.inj hu9
  have hm : mS D mCl (fun q => s.heap.size ≤ q) s.heap ad1 (gM dA ad1 A B S sd (gEx dA ad1 x1 (gO dA f1))) H locs := by
    rw [ea9, eg9, law_w1 (fun k hk => had k (Or.inr hk))] at hm
    exact hm
  have hl : lv_has ls 8 [(0, .ref b), (1, .ref (ad1 0)), (2, .ref (ad1 1000)), (3, .ref (ad1 2000)), (4, .int (nI i))] := by
    rw [had 0 (Or.inl rfl), had 1000 (Or.inr (by decide)), had 2000 (Or.inr (by decide))]
    exact hl
  refine lv_istore (lv' := [(5, .int r_1), (0, .ref b), (1, .ref (ad1 0)), (2, .ref (ad1 1000)), (3, .ref (ad1 2000)), (4, .int (nI i))]) hx hb d_L_law_1355 hl (by decide) rfl (fun ls hl => ?_)
  refine lv_aload_n hx hb d_L_law_1357 rfl (lv_at hl 3 rfl) ?_
  refine lw_arg hx hb hX hbl hL hm (lv_at hl 1 rfl) (lv_at hl 5 rfl) 1 (by decide) hi d_L_law_1358 d_L_law_1359 d_L_law_1361 (by decide) d_L_law_1362 d_L_law_1363 ?_
  refine lw_arg hx hb hX hbl hL hm (lv_at hl 1 rfl) (lv_at hl 5 rfl) 2 (by decide) hi d_L_law_1364 d_L_law_1365 d_L_law_1367 (by decide) d_L_law_1368 d_L_law_1369 ?_
  obtain ⟨on, to, hO9⟩ : ∃ (on : Nat) (to : Nat → Nat), kO I tc oc A S on to := hK.2.2.2.2.2
  refine m_calli (m_runV (As := [.int (xs (i + 1)), .int (xs (i + 2))]) (rest := []) ⟨hx, hb, hml, hown, hts⟩ (c_M_joined l D dA ad1 (gM dA ad1 A B S sd (gEx dA ad1 x1 (gO dA f1))) H.size A B S sd (gEx dA ad1 x1 (gO dA f1)) rfl on hO9.2.1 (Nat.le_trans hO9.2.2.2.1 hO9.1) to (fun o h => ⟨Nat.lt_of_lt_of_le (hO9.2.2.2.2.1 o h).1 hK.ht, (hO9.2.2.2.2.1 o h).2⟩) (xs (i + 1)) (xs (i + 2))) (cwV 2 hts (gV k_805 k_802 k_803 k_804 k_4) rfl rfl rfl (by decide +kernel) ⟨Nat.le_of_ble_eq_true rfl, Nat.le_of_ble_eq_true rfl⟩) hm hA hC 1000 rfl gM_o rfl rfl rfl hl.1 rfl (Nat.le_of_ble_eq_true rfl) d_L_law_1370 ⟨by show _ ≤ 601024; omega, by show _ ≤ 7293000; omega⟩) hm hA (fun r_5 ad_8 G_7 H locs w_6 hm => ?_)
  obtain ⟨y1, hu8, hrM⟩ := kM_joined w_6
  obtain ⟨ea8, eg8⟩ := Prod.mk.inj hu8
  have hm : mS D mCl (fun q => s.heap.size ≤ q) s.heap ad1 (gM dA ad1 y1.1 y1.2.1 y1.2.2 sd (gEx dA ad1 x1 (gO dA f1))) H locs := by
    rw [ea8, eg8] at hm
    exact hm
  obtain ⟨hk9, ho9, hK9⟩ := cp_joined hK on to hO9 hrel hrM
  refine lv_istore (lv' := [(6, .int r_5), (5, .int r_1), (0, .ref b), (1, .ref (ad1 0)), (2, .ref (ad1 1000)), (3, .ref (ad1 2000)), (4, .int (nI i))]) hx hb d_L_law_1373 hl (by decide) rfl (fun ls hl => ?_)
  refine lv_aload_n hx hb d_L_law_1375 rfl (lv_at hl 4 rfl) ?_
  refine m_roi (m_runV (As := []) (rest := []) ⟨hx, hb, hml, hown, hts⟩ (c_M_thrown l D dA ad1 (gM dA ad1 y1.1 y1.2.1 y1.2.2 sd (gEx dA ad1 x1 (gO dA f1))) H.size y1.1 y1.2.1 y1.2.2 sd (gEx dA ad1 x1 (gO dA f1)) rfl) (cwV 0 hts (gV k_680 k_677 k_678 k_679 k_4) rfl rfl rfl (by decide +kernel) ⟨Nat.le_of_ble_eq_true rfl, Nat.le_of_ble_eq_true rfl⟩) hm hA hC 1000 rfl gM_o rfl rfl rfl hl.1 rfl (Nat.le_of_ble_eq_true rfl) d_L_law_1376 ⟨by show _ ≤ 601024; omega, by show _ ≤ 7293000; omega⟩) hm hA (fun r_9 H locs w_10 hm => ?_)
  refine lv_iload hx hb d_L_law_1379 (lv_at hl 1 rfl) ?_
  refine lv_icmp_eq (tgt := 1386) hx hb d_L_law_1381 (by decide) (fun _ => ?_) (fun c9 => absurd (w_10.trans hk9) c9)
  refine lv_iload hx hb d_L_law_1386 (lv_at hl 1 rfl) ?_
  refine lv_if_ne (tgt := 1403) hx hb d_L_law_1388 (by decide) (fun _ => ?_) (fun c0 => ?_)
  · refine lv_goto (tgt := 1511) hx hb d_L_law_1403 (by decide) ?_
    refine W.widen (k := 36 + 4 * (n + 1)) (n := 1300 + 42 * (n + 1)) (by omega) (by omega) ?_
    exact kk ad1 x1 y1 f1 ls H locs hK9 (lv_sub hl [2, 3, 4, 5, 6] rfl) hm
  · refine lv_aload_n hx hb d_L_law_1391 rfl (lv_at hl 5 rfl) ?_
    refine lv_iconst (v := 0) hx hb d_L_law_1392 (by decide) ?_
    refine m_lald (v := f1 0) hx hb hC.1 hm 2000 rfl 1 ((gM_out (Or.inr (by decide))).trans ((gE_out (by decide)).trans gO_at)) rfl (vpc _ _ (by decide)) rfl d_L_law_1393 ?_
    refine lv_iload hx hb d_L_law_1394 (lv_at hl 0 rfl) ?_
    refine lv_i2l hx hb d_L_law_1396 rfl ?_
    refine lv_topl (fun x_11 ex_11 => ?_)
    refine W.lcmp hx hb d_L_law_1397 ?_
    refine lv_if_eq (tgt := 1403) hx hb d_L_law_1398 (by decide) (fun _ => ?_) (fun c9 => absurd ((lg_eq _ _).mpr ((ho9 c0).trans ex_11.symm)) c9)
    refine lv_goto (tgt := 1511) hx hb d_L_law_1403 (by decide) ?_
    refine W.widen (k := 36 + 4 * (n + 1)) (n := 1300 + 42 * (n + 1)) (by omega) (by omega) ?_
    exact kk ad1 x1 y1 f1 ls H locs hK9 (lv_sub hl [2, 3, 4, 5, 6] rfl) hm
set_option maxHeartbeats 4000000 in
set_option maxRecDepth 100000 in
theorem lc_open {p : Program} {l : Launch} {e : Env} {s : State} {m : MethodId} {b : Nat} {below : List Frame} {meth : Method} {c : Code} {D : va_G} {dA : Nat → ClassId} {Q : State → Prop} {sd : Int64} {L : Nat} {xs : Nat → Int32} {n i : Nat} (hlt : l.stackTraces = false) (C0 : lwC p s m meth c D dA b L xs) (hn : n < 512) (hi : i + 5 ≤ L) (kk : lwK p l e s m b below meth c D dA Q sd 1511 (n + 1) i) : lwK p l e s m b below meth c D dA Q sd 1406 n i := by
  obtain ⟨⟨hx, hb, hr, hml, hown⟩, hts, ⟨hX, hbl, hL⟩, hlocks, hC⟩ := C0
  have hT : ∀ w ∈ mBig, w.before _ s = true := fun w h => hts w (List.mem_cons_of_mem _ h)
  have hA : ∀ q : Nat, s.heap.size ≤ q → (fun q => s.heap.size ≤ q) q := fun q h => h
  intro ad x y f ls H locs hK hl hm
  obtain ⟨I, J, F, si, tc, oc⟩ := x
  obtain ⟨A, B, S⟩ := y
  replace hl : lv_has ls 8 [(0, .ref b), (1, .ref (ad 0)), (2, .ref (ad 1000)), (3, .ref (ad 2000)), (4, .int (nI i))] := hl
  replace hm : mS D mCl (fun q => s.heap.size ≤ q) s.heap ad (gM dA ad A B S sd (gE dA ad I J F si tc oc (gO dA f))) H locs := hm
  refine lv_aload_n hx hb d_L_law_1406 rfl (lv_at hl 1 rfl) ?_
  refine m_roi (m_runV (As := []) (rest := []) ⟨hx, hb, hml, hown, hts⟩ (c_E_open l D dA ad (gM dA ad A B S sd (gE dA ad I J F si tc oc (gO dA f))) H.size I J F si tc oc (gM dA ad A B S sd (gO dA f)) gEM.symm hK.ht hK.ho) (cwV 0 hts (gV k_115 k_112 k_113 k_114 k_1) rfl rfl rfl (by decide +kernel) ⟨Nat.le_of_ble_eq_true rfl, Nat.le_of_ble_eq_true rfl⟩) hm hA hC 0 rfl ((gM_out (Or.inl (by decide))).trans gE_c0) rfl rfl rfl hl.1 rfl (Nat.le_of_ble_eq_true rfl) d_L_law_1407 ⟨by show _ ≤ 601024; omega, by show _ ≤ 7293000; omega⟩) hm hA (fun r_1 H locs w_2 hm => ?_)
  have hrel : R_E_open I J F si tc oc r_1 (I, J, F, si, tc, oc) := ⟨w_2, rfl⟩
  refine lv_aload_n hx hb d_L_law_1410 rfl (lv_at hl 2 rfl) ?_
  refine m_calli (m_runV (As := []) (rest := [.int r_1]) ⟨hx, hb, hml, hown, hts⟩ (c_M_open l D dA ad (gM dA ad A B S sd (gE dA ad I J F si tc oc (gO dA f))) H.size A B S sd (gEx dA ad (I, J, F, si, tc, oc) (gO dA f)) rfl) (cwV 0 hts (gV k_813 k_810 k_811 k_812 k_4) rfl rfl rfl (by decide +kernel) ⟨Nat.le_of_ble_eq_true rfl, Nat.le_of_ble_eq_true rfl⟩) hm hA hC 1000 rfl gM_o rfl rfl rfl hl.1 rfl (Nat.le_of_ble_eq_true rfl) d_L_law_1411 ⟨by show _ ≤ 601024; omega, by show _ ≤ 7293000; omega⟩) hm hA (fun r_3 ad_6 G_5 H locs w_4 hm => ?_)
  obtain ⟨y1, hu8, hrM⟩ := kM_open w_4
  obtain ⟨ea8, eg8⟩ := Prod.mk.inj hu8
  have hm : mS D mCl (fun q => s.heap.size ≤ q) s.heap ad (gM dA ad y1.1 y1.2.1 y1.2.2 sd (gEx dA ad (I, J, F, si, tc, oc) (gO dA f))) H locs := by
    rw [ea8, eg8] at hm
    exact hm
  obtain ⟨hk9, hK9⟩ := cp_open hK hrel hrM
  refine lv_icmp_eq (tgt := 1511) hx hb d_L_law_1414 (by decide) (fun _ => ?_) (fun c9 => absurd hk9 c9)
  refine W.widen (k := 36 + 4 * (n + 1)) (n := 1300 + 42 * (n + 1)) (by omega) (by omega) ?_
  exact kk ad (I, J, F, si, tc, oc) y1 f ls H locs hK9 (lv_sub hl [0, 1, 2, 3, 4] rfl) hm
set_option maxHeartbeats 4000000 in
set_option maxRecDepth 100000 in
theorem lc_chip {p : Program} {l : Launch} {e : Env} {s : State} {m : MethodId} {b : Nat} {below : List Frame} {meth : Method} {c : Code} {D : va_G} {dA : Nat → ClassId} {Q : State → Prop} {sd : Int64} {L : Nat} {xs : Nat → Int32} {n i : Nat} (hlt : l.stackTraces = false) (C0 : lwC p s m meth c D dA b L xs) (hn : n < 512) (hi : i + 5 ≤ L) (kk : lwK p l e s m b below meth c D dA Q sd 1511 (n + 1) i) : lwK p l e s m b below meth c D dA Q sd 1419 n i := by
  obtain ⟨⟨hx, hb, hr, hml, hown⟩, hts, ⟨hX, hbl, hL⟩, hlocks, hC⟩ := C0
  have hT : ∀ w ∈ mBig, w.before _ s = true := fun w h => hts w (List.mem_cons_of_mem _ h)
  have hA : ∀ q : Nat, s.heap.size ≤ q → (fun q => s.heap.size ≤ q) q := fun q h => h
  intro ad x y f ls H locs hK hl hm
  obtain ⟨I, J, F, si, tc, oc⟩ := x
  obtain ⟨A, B, S⟩ := y
  replace hl : lv_has ls 8 [(0, .ref b), (1, .ref (ad 0)), (2, .ref (ad 1000)), (3, .ref (ad 2000)), (4, .int (nI i))] := hl
  replace hm : mS D mCl (fun q => s.heap.size ≤ q) s.heap ad (gM dA ad A B S sd (gE dA ad I J F si tc oc (gO dA f))) H locs := hm
  refine lv_aload_n hx hb d_L_law_1419 rfl (lv_at hl 1 rfl) ?_
  refine lw_arg hx hb hX hbl hL hm (lv_at hl 0 rfl) (lv_at hl 4 rfl) 1 (by decide) hi d_L_law_1420 d_L_law_1421 d_L_law_1423 (by decide) d_L_law_1424 d_L_law_1425 ?_
  refine lw_arg hx hb hX hbl hL hm (lv_at hl 0 rfl) (lv_at hl 4 rfl) 2 (by decide) hi d_L_law_1426 d_L_law_1427 d_L_law_1429 (by decide) d_L_law_1430 d_L_law_1431 ?_
  refine lw_arg hx hb hX hbl hL hm (lv_at hl 0 rfl) (lv_at hl 4 rfl) 3 (by decide) hi d_L_law_1432 d_L_law_1433 d_L_law_1435 (by decide) d_L_law_1436 d_L_law_1437 ?_
  refine lw_arg hx hb hX hbl hL hm (lv_at hl 0 rfl) (lv_at hl 4 rfl) 4 (by decide) hi d_L_law_1438 d_L_law_1439 d_L_law_1441 (by decide) d_L_law_1442 d_L_law_1443 ?_
  refine lv_aload_n hx hb d_L_law_1444 rfl (lv_at hl 3 rfl) ?_
  refine m_calli (m_runSW (As := [.ref (ad 0), .int (xs (i + 1)), .int (xs (i + 2)), .int (xs (i + 3)), .int (xs (i + 4)), .ref (ad 2000)]) (rest := []) ⟨hx, hb, hml, hown, hts⟩ (c_L_chip l hlt D dA ad (gM dA ad A B S sd (gE dA ad I J F si tc oc (gO dA f))) H.size I J F si tc oc (gM dA ad A B S sd (gO dA f)) gEM.symm hK.ht (xs (i + 1)) (xs (i + 2)) (xs (i + 3)) (xs (i + 4)) hK.ho f ((gM_out (Or.inr (by decide))).trans gO_at)) (vx_cwSW 6 hts (gS k_571 k_569 k_570 k_0) rfl rfl rfl (by decide +kernel) ⟨Nat.le_of_ble_eq_true rfl, Nat.le_of_ble_eq_true rfl⟩) hm hA hC rfl hl.1 rfl (Nat.le_of_ble_eq_true rfl) d_L_law_1445 ⟨by show _ ≤ 601024; omega, by show _ ≤ 7293000; omega⟩) hm hA (fun r_1 ad_4 G_3 H locs w_2 hm => ?_)
  obtain ⟨ad1, x1, f1, had, hu9, hrel⟩ := w_2
  obtain ⟨ea9, eg9⟩ := Prod.mk.inj hu9
  have hm : mS D mCl (fun q => s.heap.size ≤ q) s.heap ad1 (gM dA ad1 A B S sd (gEx dA ad1 x1 (gO dA f1))) H locs := by
    rw [ea9, eg9, law_w1 (fun k hk => had k (Or.inr hk))] at hm
    exact hm
  have hl : lv_has ls 8 [(0, .ref b), (1, .ref (ad1 0)), (2, .ref (ad1 1000)), (3, .ref (ad1 2000)), (4, .int (nI i))] := by
    rw [had 0 (Or.inl rfl), had 1000 (Or.inr (by decide)), had 2000 (Or.inr (by decide))]
    exact hl
  refine lv_istore (lv' := [(5, .int r_1), (0, .ref b), (1, .ref (ad1 0)), (2, .ref (ad1 1000)), (3, .ref (ad1 2000)), (4, .int (nI i))]) hx hb d_L_law_1448 hl (by decide) rfl (fun ls hl => ?_)
  refine lv_aload_n hx hb d_L_law_1450 rfl (lv_at hl 3 rfl) ?_
  refine lw_arg hx hb hX hbl hL hm (lv_at hl 1 rfl) (lv_at hl 5 rfl) 1 (by decide) hi d_L_law_1451 d_L_law_1452 d_L_law_1454 (by decide) d_L_law_1455 d_L_law_1456 ?_
  refine lw_arg hx hb hX hbl hL hm (lv_at hl 1 rfl) (lv_at hl 5 rfl) 2 (by decide) hi d_L_law_1457 d_L_law_1458 d_L_law_1460 (by decide) d_L_law_1461 d_L_law_1462 ?_
  refine lw_arg hx hb hX hbl hL hm (lv_at hl 1 rfl) (lv_at hl 5 rfl) 3 (by decide) hi d_L_law_1463 d_L_law_1464 d_L_law_1466 (by decide) d_L_law_1467 d_L_law_1468 ?_
  refine lw_arg hx hb hX hbl hL hm (lv_at hl 1 rfl) (lv_at hl 5 rfl) 4 (by decide) hi d_L_law_1469 d_L_law_1470 d_L_law_1472 (by decide) d_L_law_1473 d_L_law_1474 ?_
  refine m_calli (m_runV (As := [.int (xs (i + 1)), .int (xs (i + 2)), .int (xs (i + 3)), .int (xs (i + 4))]) (rest := []) ⟨hx, hb, hml, hown, hts⟩ (c_M_chip l D dA ad1 (gM dA ad1 A B S sd (gEx dA ad1 x1 (gO dA f1))) H.size A B S sd (gEx dA ad1 x1 (gO dA f1)) rfl (xs (i + 1)) (xs (i + 2)) (xs (i + 3)) (xs (i + 4))) (cwV 4 hts (gV k_817 k_814 k_815 k_816 k_4) rfl rfl rfl (by decide +kernel) ⟨Nat.le_of_ble_eq_true rfl, Nat.le_of_ble_eq_true rfl⟩) hm hA hC 1000 rfl gM_o rfl rfl rfl hl.1 rfl (Nat.le_of_ble_eq_true rfl) d_L_law_1475 ⟨by show _ ≤ 601024; omega, by show _ ≤ 7293000; omega⟩) hm hA (fun r_5 ad_8 G_7 H locs w_6 hm => ?_)
  obtain ⟨y1, hu8, hrM⟩ := kM_chip w_6
  obtain ⟨ea8, eg8⟩ := Prod.mk.inj hu8
  have hm : mS D mCl (fun q => s.heap.size ≤ q) s.heap ad1 (gM dA ad1 y1.1 y1.2.1 y1.2.2 sd (gEx dA ad1 x1 (gO dA f1))) H locs := by
    rw [ea8, eg8] at hm
    exact hm
  obtain ⟨hk9, ho9, hK9⟩ := cp_chip hK hrel hrM
  refine lv_istore (lv' := [(6, .int r_5), (5, .int r_1), (0, .ref b), (1, .ref (ad1 0)), (2, .ref (ad1 1000)), (3, .ref (ad1 2000)), (4, .int (nI i))]) hx hb d_L_law_1478 hl (by decide) rfl (fun ls hl => ?_)
  refine lv_aload_n hx hb d_L_law_1480 rfl (lv_at hl 4 rfl) ?_
  refine m_roi (m_runV (As := []) (rest := []) ⟨hx, hb, hml, hown, hts⟩ (c_M_thrown l D dA ad1 (gM dA ad1 y1.1 y1.2.1 y1.2.2 sd (gEx dA ad1 x1 (gO dA f1))) H.size y1.1 y1.2.1 y1.2.2 sd (gEx dA ad1 x1 (gO dA f1)) rfl) (cwV 0 hts (gV k_680 k_677 k_678 k_679 k_4) rfl rfl rfl (by decide +kernel) ⟨Nat.le_of_ble_eq_true rfl, Nat.le_of_ble_eq_true rfl⟩) hm hA hC 1000 rfl gM_o rfl rfl rfl hl.1 rfl (Nat.le_of_ble_eq_true rfl) d_L_law_1481 ⟨by show _ ≤ 601024; omega, by show _ ≤ 7293000; omega⟩) hm hA (fun r_9 H locs w_10 hm => ?_)
  refine lv_iload hx hb d_L_law_1484 (lv_at hl 1 rfl) ?_
  refine lv_icmp_eq (tgt := 1491) hx hb d_L_law_1486 (by decide) (fun _ => ?_) (fun c9 => absurd (w_10.trans hk9) c9)
  refine lv_iload hx hb d_L_law_1491 (lv_at hl 1 rfl) ?_
  refine lv_if_ne (tgt := 1508) hx hb d_L_law_1493 (by decide) (fun _ => ?_) (fun c0 => ?_)
  · refine lv_goto (tgt := 1511) hx hb d_L_law_1508 (by decide) ?_
    refine W.widen (k := 36 + 4 * (n + 1)) (n := 1300 + 42 * (n + 1)) (by omega) (by omega) ?_
    exact kk ad1 x1 y1 f1 ls H locs hK9 (lv_sub hl [2, 3, 4, 5, 6] rfl) hm
  · refine lv_aload_n hx hb d_L_law_1496 rfl (lv_at hl 5 rfl) ?_
    refine lv_iconst (v := 0) hx hb d_L_law_1497 (by decide) ?_
    refine m_lald (v := f1 0) hx hb hC.1 hm 2000 rfl 1 ((gM_out (Or.inr (by decide))).trans ((gE_out (by decide)).trans gO_at)) rfl (vpc _ _ (by decide)) rfl d_L_law_1498 ?_
    refine lv_iload hx hb d_L_law_1499 (lv_at hl 0 rfl) ?_
    refine lv_i2l hx hb d_L_law_1501 rfl ?_
    refine lv_topl (fun x_11 ex_11 => ?_)
    refine W.lcmp hx hb d_L_law_1502 ?_
    refine lv_if_eq (tgt := 1508) hx hb d_L_law_1503 (by decide) (fun _ => ?_) (fun c9 => absurd ((lg_eq _ _).mpr ((ho9 c0).trans ex_11.symm)) c9)
    refine lv_goto (tgt := 1511) hx hb d_L_law_1508 (by decide) ?_
    refine W.widen (k := 36 + 4 * (n + 1)) (n := 1300 + 42 * (n + 1)) (by omega) (by omega) ?_
    exact kk ad1 x1 y1 f1 ls H locs hK9 (lv_sub hl [2, 3, 4, 5, 6] rfl) hm
