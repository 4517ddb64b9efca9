set_option maxHeartbeats 4000000 in
set_option maxRecDepth 100000 in
theorem lc_tool {p : Program} {l : Launch} {e : Env} {s : State} {m : MethodId} {b : Nat} {below : List Frame} {meth : Method} {c : Code} {D : va_G} {dA : Nat → ClassId} {Q : State → Prop} {sd : Int64} {L : Nat} {xs : Nat → Int32} {n i : Nat} (hlt : l.stackTraces = false) (C0 : lwC p s m meth c D dA b L xs) (hn : n < 512) (hi : i + 5 ≤ L) (kk : lwK p l e s m b below meth c D dA Q sd 1511 (n + 1) i) : lwK p l e s m b below meth c D dA Q sd 144 n i := by
  obtain ⟨⟨hx, hb, hr, hml, hown⟩, hts, ⟨hX, hbl, hL⟩, hlocks, hC⟩ := C0
  have hT : ∀ w ∈ mBig, w.before _ s = true := fun w h => hts w (List.mem_cons_of_mem _ h)
  have hA : ∀ q : Nat, s.heap.size ≤ q → (fun q => s.heap.size ≤ q) q := fun q h => h
  intro ad x y f ls H locs hK hl hm
  obtain ⟨I, J, F, si, tc, oc⟩ := x
  obtain ⟨A, B, S⟩ := y
  replace hl : lv_has ls 8 [(0, .ref b), (1, .ref (ad 0)), (2, .ref (ad 1000)), (3, .ref (ad 2000)), (4, .int (nI i))] := hl
  replace hm : mS D mCl (fun q => s.heap.size ≤ q) s.heap ad (gM dA ad A B S sd (gE dA ad I J F si tc oc (gO dA f))) H locs := hm
  refine lv_aload_n hx hb d_L_law_144 rfl (lv_at hl 1 rfl) ?_
  refine lw_arg hx hb hX hbl hL hm (lv_at hl 0 rfl) (lv_at hl 4 rfl) 1 (by decide) hi d_L_law_145 d_L_law_146 d_L_law_148 (by decide) d_L_law_149 d_L_law_150 ?_
  refine lw_arg hx hb hX hbl hL hm (lv_at hl 0 rfl) (lv_at hl 4 rfl) 2 (by decide) hi d_L_law_151 d_L_law_152 d_L_law_154 (by decide) d_L_law_155 d_L_law_156 ?_
  refine lw_arg hx hb hX hbl hL hm (lv_at hl 0 rfl) (lv_at hl 4 rfl) 3 (by decide) hi d_L_law_157 d_L_law_158 d_L_law_160 (by decide) d_L_law_161 d_L_law_162 ?_
  refine lv_aload_n hx hb d_L_law_163 rfl (lv_at hl 3 rfl) ?_
  refine m_calli (m_runSW (As := [.ref (ad 0), .int (xs (i + 1)), .int (xs (i + 2)), .int (xs (i + 3)), .ref (ad 2000)]) (rest := []) ⟨hx, hb, hml, hown, hts⟩ (c_L_tool l hlt D dA ad (gM dA ad A B S sd (gE dA ad I J F si tc oc (gO dA f))) H.size I J F si tc oc (gM dA ad A B S sd (gO dA f)) gEM.symm hK.ht hK.ho hK.hs (xs (i + 1)) (xs (i + 2)) (xs (i + 3)) f ((gM_out (Or.inr (by decide))).trans gO_at)) (vx_cwSW 5 hts (gS k_121 k_119 k_120 k_0) rfl rfl rfl (by decide +kernel) ⟨Nat.le_of_ble_eq_true rfl, Nat.le_of_ble_eq_true rfl⟩) hm hA hC rfl hl.1 rfl (Nat.le_of_ble_eq_true rfl) d_L_law_164 ⟨by show _ ≤ 601024; omega, by show _ ≤ 7293000; omega⟩) hm hA (fun r_1 ad_4 G_3 H locs w_2 hm => ?_)
  obtain ⟨ad1, x1, f1, had, hu9, hrel⟩ := w_2
  obtain ⟨ea9, eg9⟩ := Prod.mk.inj hu9
  have hm : mS D mCl (fun q => s.heap.size ≤ q) s.heap ad1 (gM dA ad1 A B S sd (gEx dA ad1 x1 (gO dA f1))) H locs := by
    rw [ea9, eg9, law_w1 (fun k hk => had k (Or.inr hk))] at hm
    exact hm
  have hl : lv_has ls 8 [(0, .ref b), (1, .ref (ad1 0)), (2, .ref (ad1 1000)), (3, .ref (ad1 2000)), (4, .int (nI i))] := by
    rw [had 0 (Or.inl rfl), had 1000 (Or.inr (by decide)), had 2000 (Or.inr (by decide))]
    exact hl
  refine lv_istore (lv' := [(5, .int r_1), (0, .ref b), (1, .ref (ad1 0)), (2, .ref (ad1 1000)), (3, .ref (ad1 2000)), (4, .int (nI i))]) hx hb d_L_law_167 hl (by decide) rfl (fun ls hl => ?_)
  refine lv_aload_n hx hb d_L_law_169 rfl (lv_at hl 3 rfl) ?_
  refine lw_arg hx hb hX hbl hL hm (lv_at hl 1 rfl) (lv_at hl 5 rfl) 1 (by decide) hi d_L_law_170 d_L_law_171 d_L_law_173 (by decide) d_L_law_174 d_L_law_175 ?_
  refine lw_arg hx hb hX hbl hL hm (lv_at hl 1 rfl) (lv_at hl 5 rfl) 2 (by decide) hi d_L_law_176 d_L_law_177 d_L_law_179 (by decide) d_L_law_180 d_L_law_181 ?_
  refine lw_arg hx hb hX hbl hL hm (lv_at hl 1 rfl) (lv_at hl 5 rfl) 3 (by decide) hi d_L_law_182 d_L_law_183 d_L_law_185 (by decide) d_L_law_186 d_L_law_187 ?_
  refine m_calli (m_runV (As := [.int (xs (i + 1)), .int (xs (i + 2)), .int (xs (i + 3))]) (rest := []) ⟨hx, hb, hml, hown, hts⟩ (c_M_tool l D dA ad1 (gM dA ad1 A B S sd (gEx dA ad1 x1 (gO dA f1))) H.size A B S sd (gEx dA ad1 x1 (gO dA f1)) rfl tc hK.hS hK.ht (xs (i + 1)) (xs (i + 2)) (xs (i + 3))) (cwV 3 hts (gV k_684 k_681 k_682 k_683 k_4) rfl rfl rfl (by decide +kernel) ⟨Nat.le_of_ble_eq_true rfl, Nat.le_of_ble_eq_true rfl⟩) hm hA hC 1000 rfl gM_o rfl rfl rfl hl.1 rfl (Nat.le_of_ble_eq_true rfl) d_L_law_188 ⟨by show _ ≤ 601024; omega, by show _ ≤ 7293000; omega⟩) hm hA (fun r_5 ad_8 G_7 H locs w_6 hm => ?_)
  obtain ⟨y1, hu8, hrM⟩ := kM_tool w_6
  obtain ⟨ea8, eg8⟩ := Prod.mk.inj hu8
  have hm : mS D mCl (fun q => s.heap.size ≤ q) s.heap ad1 (gM dA ad1 y1.1 y1.2.1 y1.2.2 sd (gEx dA ad1 x1 (gO dA f1))) H locs := by
    rw [ea8, eg8] at hm
    exact hm
  obtain ⟨hk9, ho9, hK9⟩ := cp_tool hK hrel hrM
  refine lv_istore (lv' := [(6, .int r_5), (5, .int r_1), (0, .ref b), (1, .ref (ad1 0)), (2, .ref (ad1 1000)), (3, .ref (ad1 2000)), (4, .int (nI i))]) hx hb d_L_law_191 hl (by decide) rfl (fun ls hl => ?_)
  refine lv_aload_n hx hb d_L_law_193 rfl (lv_at hl 4 rfl) ?_
  refine m_roi (m_runV (As := []) (rest := []) ⟨hx, hb, hml, hown, hts⟩ (c_M_thrown l D dA ad1 (gM dA ad1 y1.1 y1.2.1 y1.2.2 sd (gEx dA ad1 x1 (gO dA f1))) H.size y1.1 y1.2.1 y1.2.2 sd (gEx dA ad1 x1 (gO dA f1)) rfl) (cwV 0 hts (gV k_680 k_677 k_678 k_679 k_4) rfl rfl rfl (by decide +kernel) ⟨Nat.le_of_ble_eq_true rfl, Nat.le_of_ble_eq_true rfl⟩) hm hA hC 1000 rfl gM_o rfl rfl rfl hl.1 rfl (Nat.le_of_ble_eq_true rfl) d_L_law_194 ⟨by show _ ≤ 601024; omega, by show _ ≤ 7293000; omega⟩) hm hA (fun r_9 H locs w_10 hm => ?_)
  refine lv_iload hx hb d_L_law_197 (lv_at hl 1 rfl) ?_
  refine lv_icmp_eq (tgt := 204) hx hb d_L_law_199 (by decide) (fun _ => ?_) (fun c9 => absurd (w_10.trans hk9) c9)
  refine lv_iload hx hb d_L_law_204 (lv_at hl 1 rfl) ?_
  refine lv_if_ne (tgt := 221) hx hb d_L_law_206 (by decide) (fun _ => ?_) (fun c0 => ?_)
  · refine lv_goto (tgt := 1511) hx hb d_L_law_221 (by decide) ?_
    refine W.widen (k := 36 + 4 * (n + 1)) (n := 1300 + 42 * (n + 1)) (by omega) (by omega) ?_
    exact kk ad1 x1 y1 f1 ls H locs hK9 (lv_sub hl [2, 3, 4, 5, 6] rfl) hm
  · refine lv_aload_n hx hb d_L_law_209 rfl (lv_at hl 5 rfl) ?_
    refine lv_iconst (v := 0) hx hb d_L_law_210 (by decide) ?_
    refine m_lald (v := f1 0) hx hb hC.1 hm 2000 rfl 1 ((gM_out (Or.inr (by decide))).trans ((gE_out (by decide)).trans gO_at)) rfl (vpc _ _ (by decide)) rfl d_L_law_211 ?_
    refine lv_iload hx hb d_L_law_212 (lv_at hl 0 rfl) ?_
    refine lv_i2l hx hb d_L_law_214 rfl ?_
    refine lv_topl (fun x_11 ex_11 => ?_)
    refine W.lcmp hx hb d_L_law_215 ?_
    refine lv_if_eq (tgt := 221) hx hb d_L_law_216 (by decide) (fun _ => ?_) (fun c9 => absurd ((lg_eq _ _).mpr ((ho9 c0).trans ex_11.symm)) c9)
    refine lv_goto (tgt := 1511) hx hb d_L_law_221 (by decide) ?_
    refine W.widen (k := 36 + 4 * (n + 1)) (n := 1300 + 42 * (n + 1)) (by omega) (by omega) ?_
    exact kk ad1 x1 y1 f1 ls H locs hK9 (lv_sub hl [2, 3, 4, 5, 6] rfl) hm
set_option maxHeartbeats 4000000 in
set_option maxRecDepth 100000 in
theorem lc_rate {p : Program} {l : Launch} {e : Env} {s : State} {m : MethodId} {b : Nat} {below : List Frame} {meth : Method} {c : Code} {D : va_G} {dA : Nat → ClassId} {Q : State → Prop} {sd : Int64} {L : Nat} {xs : Nat → Int32} {n i : Nat} (hlt : l.stackTraces = false) (C0 : lwC p s m meth c D dA b L xs) (hn : n < 512) (hi : i + 5 ≤ L) (kk : lwK p l e s m b below meth c D dA Q sd 1511 (n + 1) i) : lwK p l e s m b below meth c D dA Q sd 224 n i := by
  obtain ⟨⟨hx, hb, hr, hml, hown⟩, hts, ⟨hX, hbl, hL⟩, hlocks, hC⟩ := C0
  have hT : ∀ w ∈ mBig, w.before _ s = true := fun w h => hts w (List.mem_cons_of_mem _ h)
  have hA : ∀ q : Nat, s.heap.size ≤ q → (fun q => s.heap.size ≤ q) q := fun q h => h
  intro ad x y f ls H locs hK hl hm
  obtain ⟨I, J, F, si, tc, oc⟩ := x
  obtain ⟨A, B, S⟩ := y
  replace hl : lv_has ls 8 [(0, .ref b), (1, .ref (ad 0)), (2, .ref (ad 1000)), (3, .ref (ad 2000)), (4, .int (nI i))] := hl
  replace hm : mS D mCl (fun q => s.heap.size ≤ q) s.heap ad (gM dA ad A B S sd (gE dA ad I J F si tc oc (gO dA f))) H locs := hm
  refine lv_aload_n hx hb d_L_law_224 rfl (lv_at hl 1 rfl) ?_
  refine lw_arg hx hb hX hbl hL hm (lv_at hl 0 rfl) (lv_at hl 4 rfl) 1 (by decide) hi d_L_law_225 d_L_law_226 d_L_law_228 (by decide) d_L_law_229 d_L_law_230 ?_
  refine lw_arg hx hb hX hbl hL hm (lv_at hl 0 rfl) (lv_at hl 4 rfl) 2 (by decide) hi d_L_law_231 d_L_law_232 d_L_law_234 (by decide) d_L_law_235 d_L_law_236 ?_
  refine lw_arg hx hb hX hbl hL hm (lv_at hl 0 rfl) (lv_at hl 4 rfl) 3 (by decide) hi d_L_law_237 d_L_law_238 d_L_law_240 (by decide) d_L_law_241 d_L_law_242 ?_
  refine m_calli (m_runSW (As := [.ref (ad 0), .int (xs (i + 1)), .int (xs (i + 2)), .int (xs (i + 3))]) (rest := []) ⟨hx, hb, hml, hown, hts⟩ (c_L_rate l hlt D dA ad (gM dA ad A B S sd (gE dA ad I J F si tc oc (gO dA f))) H.size I J F si tc oc (gM dA ad A B S sd (gO dA f)) gEM.symm hK.ht (xs (i + 1)) (xs (i + 2)) (xs (i + 3)) hK.ho) (vx_cwSW 4 hts (gS k_294 k_292 k_293 k_0) rfl rfl rfl (by decide +kernel) ⟨Nat.le_of_ble_eq_true rfl, Nat.le_of_ble_eq_true rfl⟩) hm hA hC rfl hl.1 rfl (Nat.le_of_ble_eq_true rfl) d_L_law_243 ⟨by show _ ≤ 601024; omega, by show _ ≤ 7293000; omega⟩) hm hA (fun r_1 ad_4 G_3 H locs w_2 hm => ?_)
  obtain ⟨ad1, x1, had, hu9, hrel⟩ := w_2
  obtain ⟨ea9, eg9⟩ := Prod.mk.inj hu9
  have hm : mS D mCl (fun q => s.heap.size ≤ q) s.heap ad1 (gM dA ad1 A B S sd (gEx dA ad1 x1 (gO dA f))) H locs := by
    rw [ea9, eg9, law_w2 (fun k hk => had k (Or.inr hk))] at hm
    exact hm
  have hl : lv_has ls 8 [(0, .ref b), (1, .ref (ad1 0)), (2, .ref (ad1 1000)), (3, .ref (ad1 2000)), (4, .int (nI i))] := by
    rw [had 0 (Or.inl rfl), had 1000 (Or.inr (by decide)), had 2000 (Or.inr (by decide))]
    exact hl
  refine lv_istore (lv' := [(5, .int r_1), (0, .ref b), (1, .ref (ad1 0)), (2, .ref (ad1 1000)), (3, .ref (ad1 2000)), (4, .int (nI i))]) hx hb d_L_law_246 hl (by decide) rfl (fun ls hl => ?_)
  refine lv_aload_n hx hb d_L_law_248 rfl (lv_at hl 3 rfl) ?_
  refine lw_arg hx hb hX hbl hL hm (lv_at hl 1 rfl) (lv_at hl 5 rfl) 1 (by decide) hi d_L_law_249 d_L_law_250 d_L_law_252 (by decide) d_L_law_253 d_L_law_254 ?_
  refine lw_arg hx hb hX hbl hL hm (lv_at hl 1 rfl) (lv_at hl 5 rfl) 2 (by decide) hi d_L_law_255 d_L_law_256 d_L_law_258 (by decide) d_L_law_259 d_L_law_260 ?_
  refine lw_arg hx hb hX hbl hL hm (lv_at hl 1 rfl) (lv_at hl 5 rfl) 3 (by decide) hi d_L_law_261 d_L_law_262 d_L_law_264 (by decide) d_L_law_265 d_L_law_266 ?_
  refine m_callv (m_runV (As := [.int (xs (i + 1)), .int (xs (i + 2)), .int (xs (i + 3))]) (rest := []) ⟨hx, hb, hml, hown, hts⟩ (c_M_rate l D dA ad1 (gM dA ad1 A B S sd (gEx dA ad1 x1 (gO dA f))) H.size A B S sd (gEx dA ad1 x1 (gO dA f)) rfl (xs (i + 1)) (xs (i + 2)) (xs (i + 3))) (cwV 3 hts (gV k_695 k_692 k_693 k_694 k_4) rfl rfl rfl (by decide +kernel) ⟨Nat.le_of_ble_eq_true rfl, Nat.le_of_ble_eq_true rfl⟩) hm hA hC 1000 rfl gM_o rfl rfl rfl hl.1 rfl (Nat.le_of_ble_eq_true rfl) d_L_law_267 ⟨by show _ ≤ 601024; omega, by show _ ≤ 7293000; omega⟩) hm hA (fun ad_8 G_7 H locs w_6 hm => ?_)
  obtain ⟨y1, hu8, hrM⟩ := kM_rate w_6
  obtain ⟨ea8, eg8⟩ := Prod.mk.inj hu8
  have hm : mS D mCl (fun q => s.heap.size ≤ q) s.heap ad1 (gM dA ad1 y1.1 y1.2.1 y1.2.2 sd (gEx dA ad1 x1 (gO dA f))) H locs := by
    rw [ea8, eg8] at hm
    exact hm
  obtain ⟨hk9, hK9⟩ := cp_rate hK hrel hrM
  refine lv_aload_n hx hb d_L_law_270 rfl (lv_at hl 3 rfl) ?_
  refine m_roi (m_runV (As := []) (rest := []) ⟨hx, hb, hml, hown, hts⟩ (c_M_thrown l D dA ad1 (gM dA ad1 y1.1 y1.2.1 y1.2.2 sd (gEx dA ad1 x1 (gO dA f))) H.size y1.1 y1.2.1 y1.2.2 sd (gEx dA ad1 x1 (gO dA f)) rfl) (cwV 0 hts (gV k_680 k_677 k_678 k_679 k_4) rfl rfl rfl (by decide +kernel) ⟨Nat.le_of_ble_eq_true rfl, Nat.le_of_ble_eq_true rfl⟩) hm hA hC 1000 rfl gM_o rfl rfl rfl hl.1 rfl (Nat.le_of_ble_eq_true rfl) d_L_law_271 ⟨by show _ ≤ 601024; omega, by show _ ≤ 7293000; omega⟩) hm hA (fun r_9 H locs w_10 hm => ?_)
  refine lv_iload hx hb d_L_law_274 (lv_at hl 0 rfl) ?_
  refine lv_icmp_eq (tgt := 281) hx hb d_L_law_276 (by decide) (fun _ => ?_) (fun c9 => absurd (w_10.trans hk9) c9)
  refine lv_goto (tgt := 1511) hx hb d_L_law_281 (by decide) ?_
  refine W.widen (k := 36 + 4 * (n + 1)) (n := 1300 + 42 * (n + 1)) (by omega) (by omega) ?_
  exact kk ad1 x1 y1 f ls H locs hK9 (lv_sub hl [1, 2, 3, 4, 5] rfl) hm
set_option maxHeartbeats 4000000 in
set_option maxRecDepth 100000 in
theorem lc_limit {p : Program} {l : Launch} {e : Env} {s : State} {m : MethodId} {b : Nat} {below : List Frame} {meth : Method} {c : Code} {D : va_G} {dA : Nat → ClassId} {Q : State → Prop} {sd : Int64} {L : Nat} {xs : Nat → Int32} {n i : Nat} (hlt : l.stackTraces = false) (C0 : lwC p s m meth c D dA b L xs) (hn : n < 512) (hi : i + 5 ≤ L) (kk : lwK p l e s m b below meth c D dA Q sd 1511 (n + 1) i) : lwK p l e s m b below meth c D dA Q sd 284 n i := by
  obtain ⟨⟨hx, hb, hr, hml, hown⟩, hts, ⟨hX, hbl, hL⟩, hlocks, hC⟩ := C0
  have hT : ∀ w ∈ mBig, w.before _ s = true := fun w h => hts w (List.mem_cons_of_mem _ h)
  have hA : ∀ q : Nat, s.heap.size ≤ q → (fun q => s.heap.size ≤ q) q := fun q h => h
  intro ad x y f ls H locs hK hl hm
  obtain ⟨I, J, F, si, tc, oc⟩ := x
  obtain ⟨A, B, S⟩ := y
  replace hl : lv_has ls 8 [(0, .ref b), (1, .ref (ad 0)), (2, .ref (ad 1000)), (3, .ref (ad 2000)), (4, .int (nI i))] := hl
  replace hm : mS D mCl (fun q => s.heap.size ≤ q) s.heap ad (gM dA ad A B S sd (gE dA ad I J F si tc oc (gO dA f))) H locs := hm
  refine lv_aload_n hx hb d_L_law_284 rfl (lv_at hl 1 rfl) ?_
  refine lw_arg hx hb hX hbl hL hm (lv_at hl 0 rfl) (lv_at hl 4 rfl) 1 (by decide) hi d_L_law_285 d_L_law_286 d_L_law_288 (by decide) d_L_law_289 d_L_law_290 ?_
  refine lw_arg hx hb hX hbl hL hm (lv_at hl 0 rfl) (lv_at hl 4 rfl) 2 (by decide) hi d_L_law_291 d_L_law_292 d_L_law_294 (by decide) d_L_law_295 d_L_law_296 ?_
  refine lv_i2l hx hb d_L_law_297 rfl ?_
  refine lv_topl (fun x_1 ex_1 => ?_)
  refine lv_bipush (v := 32) hx hb d_L_law_298 (by decide) ?_
  refine lv_lshl hx hb d_L_law_300 rfl ?_
  refine lv_topl (fun x_2 ex_2 => ?_)
  refine lw_arg hx hb hX hbl hL hm (lv_at hl 0 rfl) (lv_at hl 4 rfl) 3 (by decide) hi d_L_law_301 d_L_law_302 d_L_law_304 (by decide) d_L_law_305 d_L_law_306 ?_
  refine lv_i2l hx hb d_L_law_307 rfl ?_
  refine lv_topl (fun x_3 ex_3 => ?_)
  refine lv_ldc2 (v := 4294967295) hx hb hown (hT _ k_819) d_L_law_308 ?_
  refine lv_land hx hb d_L_law_311 ?_
  refine lv_topl (fun x_4 ex_4 => ?_)
  refine lv_lor hx hb d_L_law_312 ?_
  refine lv_topl (fun x_5 ex_5 => ?_)
  refine m_calli (m_runSW (As := [.ref (ad 0), .int (xs (i + 1)), .long x_5]) (rest := []) ⟨hx, hb, hml, hown, hts⟩ (c_L_limit l hlt D dA ad (gM dA ad A B S sd (gE dA ad I J F si tc oc (gO dA f))) H.size I J F si tc oc (gM dA ad A B S sd (gO dA f)) gEM.symm hK.ht (xs (i + 1)) x_5 hK.ho) (vx_cwSW 3 hts (gS k_306 k_304 k_305 k_0) rfl rfl rfl (by decide +kernel) ⟨Nat.le_of_ble_eq_true rfl, Nat.le_of_ble_eq_true rfl⟩) hm hA hC rfl hl.1 rfl (Nat.le_of_ble_eq_true rfl) d_L_law_313 ⟨by show _ ≤ 601024; omega, by show _ ≤ 7293000; omega⟩) hm hA (fun r_6 ad_9 G_8 H locs w_7 hm => ?_)
  obtain ⟨ad1, x1, had, hu9, hrel⟩ := w_7
  obtain ⟨ea9, eg9⟩ := Prod.mk.inj hu9
  have hm : mS D mCl (fun q => s.heap.size ≤ q) s.heap ad1 (gM dA ad1 A B S sd (gEx dA ad1 x1 (gO dA f))) H locs := by
    rw [ea9, eg9, law_w2 (fun k hk => had k (Or.inr hk))] at hm
    exact hm
  have hl : lv_has ls 8 [(0, .ref b), (1, .ref (ad1 0)), (2, .ref (ad1 1000)), (3, .ref (ad1 2000)), (4, .int (nI i))] := by
    rw [had 0 (Or.inl rfl), had 1000 (Or.inr (by decide)), had 2000 (Or.inr (by decide))]
    exact hl
  refine lv_istore (lv' := [(5, .int r_6), (0, .ref b), (1, .ref (ad1 0)), (2, .ref (ad1 1000)), (3, .ref (ad1 2000)), (4, .int (nI i))]) hx hb d_L_law_316 hl (by decide) rfl (fun ls hl => ?_)
  refine lv_aload_n hx hb d_L_law_318 rfl (lv_at hl 3 rfl) ?_
  refine lw_arg hx hb hX hbl hL hm (lv_at hl 1 rfl) (lv_at hl 5 rfl) 1 (by decide) hi d_L_law_319 d_L_law_320 d_L_law_322 (by decide) d_L_law_323 d_L_law_324 ?_
  refine lw_arg hx hb hX hbl hL hm (lv_at hl 1 rfl) (lv_at hl 5 rfl) 2 (by decide) hi d_L_law_325 d_L_law_326 d_L_law_328 (by decide) d_L_law_329 d_L_law_330 ?_
  refine lv_i2l hx hb d_L_law_331 rfl ?_
  refine lv_topl (fun x_10 ex_10 => ?_)
  refine lv_bipush (v := 32) hx hb d_L_law_332 (by decide) ?_
  refine lv_lshl hx hb d_L_law_334 rfl ?_
  refine lv_topl (fun x_11 ex_11 => ?_)
  refine lw_arg hx hb hX hbl hL hm (lv_at hl 1 rfl) (lv_at hl 5 rfl) 3 (by decide) hi d_L_law_335 d_L_law_336 d_L_law_338 (by decide) d_L_law_339 d_L_law_340 ?_
  refine lv_i2l hx hb d_L_law_341 rfl ?_
  refine lv_topl (fun x_12 ex_12 => ?_)
  refine lv_ldc2 (v := 4294967295) hx hb hown (hT _ k_819) d_L_law_342 ?_
  refine lv_land hx hb d_L_law_345 ?_
  refine lv_topl (fun x_13 ex_13 => ?_)
  refine lv_lor hx hb d_L_law_346 ?_
  refine lv_topl (fun x_14 ex_14 => ?_)
  have hq9 : x_14 = x_5 := by
    subst_vars
    rfl
  rw [hq9]
  refine m_callv (m_runV (As := [.int (xs (i + 1)), .long x_5]) (rest := []) ⟨hx, hb, hml, hown, hts⟩ (c_M_limit l D dA ad1 (gM dA ad1 A B S sd (gEx dA ad1 x1 (gO dA f))) H.size A B S sd (gEx dA ad1 x1 (gO dA f)) rfl (xs (i + 1)) x_5) (cwV 2 hts (gV k_699 k_696 k_697 k_698 k_4) rfl rfl rfl (by decide +kernel) ⟨Nat.le_of_ble_eq_true rfl, Nat.le_of_ble_eq_true rfl⟩) hm hA hC 1000 rfl gM_o rfl rfl rfl hl.1 rfl (Nat.le_of_ble_eq_true rfl) d_L_law_347 ⟨by show _ ≤ 601024; omega, by show _ ≤ 7293000; omega⟩) hm hA (fun ad_18 G_17 H locs w_16 hm => ?_)
  obtain ⟨y1, hu8, hrM⟩ := kM_limit w_16
  obtain ⟨ea8, eg8⟩ := Prod.mk.inj hu8
  have hm : mS D mCl (fun q => s.heap.size ≤ q) s.heap ad1 (gM dA ad1 y1.1 y1.2.1 y1.2.2 sd (gEx dA ad1 x1 (gO dA f))) H locs := by
    rw [ea8, eg8] at hm
    exact hm
  obtain ⟨hk9, hK9⟩ := cp_limit hK hrel hrM
  refine lv_aload_n hx hb d_L_law_350 rfl (lv_at hl 3 rfl) ?_
  refine m_roi (m_runV (As := []) (rest := []) ⟨hx, hb, hml, hown, hts⟩ (c_M_thrown l D dA ad1 (gM dA ad1 y1.1 y1.2.1 y1.2.2 sd (gEx dA ad1 x1 (gO dA f))) H.size y1.1 y1.2.1 y1.2.2 sd (gEx dA ad1 x1 (gO dA f)) rfl) (cwV 0 hts (gV k_680 k_677 k_678 k_679 k_4) rfl rfl rfl (by decide +kernel) ⟨Nat.le_of_ble_eq_true rfl, Nat.le_of_ble_eq_true rfl⟩) hm hA hC 1000 rfl gM_o rfl rfl rfl hl.1 rfl (Nat.le_of_ble_eq_true rfl) d_L_law_351 ⟨by show _ ≤ 601024; omega, by show _ ≤ 7293000; omega⟩) hm hA (fun r_19 H locs w_20 hm => ?_)
  refine lv_iload hx hb d_L_law_354 (lv_at hl 0 rfl) ?_
  refine lv_icmp_eq (tgt := 361) hx hb d_L_law_356 (by decide) (fun _ => ?_) (fun c9 => absurd (w_20.trans hk9) c9)
  refine lv_goto (tgt := 1511) hx hb d_L_law_361 (by decide) ?_
  refine W.widen (k := 36 + 4 * (n + 1)) (n := 1300 + 42 * (n + 1)) (by omega) (by omega) ?_
  exact kk ad1 x1 y1 f ls H locs hK9 (lv_sub hl [1, 2, 3, 4, 5] rfl) hm
set_option maxHeartbeats 4000000 in
set_option maxRecDepth 100000 in
theorem lc_use {p : Program} {l : Launch} {e : Env} {s : State} {m : MethodId} {b : Nat} {below : List Frame} {meth : Method} {c : Code} {D : va_G} {dA : Nat → ClassId} {Q : State → Prop} {sd : Int64} {L : Nat} {xs : Nat → Int32} {n i : Nat} (hlt : l.stackTraces = false) (C0 : lwC p s m meth c D dA b L xs) (hn : n < 512) (hi : i + 5 ≤ L) (kk : lwK p l e s m b below meth c D dA Q sd 1511 (n + 1) i) : lwK p l e s m b below meth c D dA Q sd 364 n i := by
  obtain ⟨⟨hx, hb, hr, hml, hown⟩, hts, ⟨hX, hbl, hL⟩, hlocks, hC⟩ := C0
  have hT : ∀ w ∈ mBig, w.before _ s = true := fun w h => hts w (List.mem_cons_of_mem _ h)
  have hA : ∀ q : Nat, s.heap.size ≤ q → (fun q => s.heap.size ≤ q) q := fun q h => h
  intro ad x y f ls H locs hK hl hm
  obtain ⟨I, J, F, si, tc, oc⟩ := x
  obtain ⟨A, B, S⟩ := y
  replace hl : lv_has ls 8 [(0, .ref b), (1, .ref (ad 0)), (2, .ref (ad 1000)), (3, .ref (ad 2000)), (4, .int (nI i))] := hl
  replace hm : mS D mCl (fun q => s.heap.size ≤ q) s.heap ad (gM dA ad A B S sd (gE dA ad I J F si tc oc (gO dA f))) H locs := hm
  refine lv_aload_n hx hb d_L_law_364 rfl (lv_at hl 1 rfl) ?_
  refine lw_arg hx hb hX hbl hL hm (lv_at hl 0 rfl) (lv_at hl 4 rfl) 1 (by decide) hi d_L_law_365 d_L_law_366 d_L_law_368 (by decide) d_L_law_369 d_L_law_370 ?_
  refine lw_arg hx hb hX hbl hL hm (lv_at hl 0 rfl) (lv_at hl 4 rfl) 2 (by decide) hi d_L_law_371 d_L_law_372 d_L_law_374 (by decide) d_L_law_375 d_L_law_376 ?_
  refine lw_arg hx hb hX hbl hL hm (lv_at hl 0 rfl) (lv_at hl 4 rfl) 3 (by decide) hi d_L_law_377 d_L_law_378 d_L_law_380 (by decide) d_L_law_381 d_L_law_382 ?_
  refine lw_arg hx hb hX hbl hL hm (lv_at hl 0 rfl) (lv_at hl 4 rfl) 4 (by decide) hi d_L_law_383 d_L_law_384 d_L_law_386 (by decide) d_L_law_387 d_L_law_388 ?_
  refine lv_aload_n hx hb d_L_law_389 rfl (lv_at hl 3 rfl) ?_
  refine m_calli (m_runSW (As := [.ref (ad 0), .int (xs (i + 1)), .int (xs (i + 2)), .int (xs (i + 3)), .int (xs (i + 4)), .ref (ad 2000)]) (rest := []) ⟨hx, hb, hml, hown, hts⟩ (c_L_use l hlt D dA ad (gM dA ad A B S sd (gE dA ad I J F si tc oc (gO dA f))) H.size I J F si tc oc (gM dA ad A B S sd (gO dA f)) gEM.symm hK.ht hK.hs (xs (i + 1)) (xs (i + 2)) (xs (i + 3)) (xs (i + 4)) hK.ho f ((gM_out (Or.inr (by decide))).trans gO_at)) (vx_cwSW 6 hts (gS k_315 k_313 k_314 k_0) rfl rfl rfl (by decide +kernel) ⟨Nat.le_of_ble_eq_true rfl, Nat.le_of_ble_eq_true rfl⟩) hm hA hC rfl hl.1 rfl (Nat.le_of_ble_eq_true rfl) d_L_law_390 ⟨by show _ ≤ 601024; omega, by show _ ≤ 7293000; omega⟩) hm hA (fun r_1 ad_4 G_3 H locs w_2 hm => ?_)
  obtain ⟨ad1, x1, f1, had, hu9, hrel⟩ := w_2
  obtain ⟨ea9, eg9⟩ := Prod.mk.inj hu9
  have hm : mS D mCl (fun q => s.heap.size ≤ q) s.heap ad1 (gM dA ad1 A B S sd (gEx dA ad1 x1 (gO dA f1))) H locs := by
    rw [ea9, eg9, law_w1 (fun k hk => had k (Or.inr hk))] at hm
    exact hm
  have hl : lv_has ls 8 [(0, .ref b), (1, .ref (ad1 0)), (2, .ref (ad1 1000)), (3, .ref (ad1 2000)), (4, .int (nI i))] := by
    rw [had 0 (Or.inl rfl), had 1000 (Or.inr (by decide)), had 2000 (Or.inr (by decide))]
    exact hl
  refine lv_istore (lv' := [(5, .int r_1), (0, .ref b), (1, .ref (ad1 0)), (2, .ref (ad1 1000)), (3, .ref (ad1 2000)), (4, .int (nI i))]) hx hb d_L_law_393 hl (by decide) rfl (fun ls hl => ?_)
  refine lv_aload_n hx hb d_L_law_395 rfl (lv_at hl 3 rfl) ?_
  refine lw_arg hx hb hX hbl hL hm (lv_at hl 1 rfl) (lv_at hl 5 rfl) 1 (by decide) hi d_L_law_396 d_L_law_397 d_L_law_399 (by decide) d_L_law_400 d_L_law_401 ?_
  refine lw_arg hx hb hX hbl hL hm (lv_at hl 1 rfl) (lv_at hl 5 rfl) 2 (by decide) hi d_L_law_402 d_L_law_403 d_L_law_405 (by decide) d_L_law_406 d_L_law_407 ?_
  refine lw_arg hx hb hX hbl hL hm (lv_at hl 1 rfl) (lv_at hl 5 rfl) 3 (by decide) hi d_L_law_408 d_L_law_409 d_L_law_411 (by decide) d_L_law_412 d_L_law_413 ?_
  refine lw_arg hx hb hX hbl hL hm (lv_at hl 1 rfl) (lv_at hl 5 rfl) 4 (by decide) hi d_L_law_414 d_L_law_415 d_L_law_417 (by decide) d_L_law_418 d_L_law_419 ?_
  refine m_calli (m_runV (As := [.int (xs (i + 1)), .int (xs (i + 2)), .int (xs (i + 3)), .int (xs (i + 4))]) (rest := []) ⟨hx, hb, hml, hown, hts⟩ (c_M_use l D dA ad1 (gM dA ad1 A B S sd (gEx dA ad1 x1 (gO dA f1))) H.size A B S sd (gEx dA ad1 x1 (gO dA f1)) rfl tc hK.hS hK.ht si hK.hs2 (xs (i + 1)) (xs (i + 2)) (xs (i + 3)) (xs (i + 4))) (cwV 4 hts (gV k_704 k_701 k_702 k_703 k_4) rfl rfl rfl (by decide +kernel) ⟨Nat.le_of_ble_eq_true rfl, Nat.le_of_ble_eq_true rfl⟩) hm hA hC 1000 rfl gM_o rfl rfl rfl hl.1 rfl (Nat.le_of_ble_eq_true rfl) d_L_law_420 ⟨by show _ ≤ 601024; omega, by show _ ≤ 7293000; omega⟩) hm hA (fun r_5 ad_8 G_7 H locs w_6 hm => ?_)
  obtain ⟨y1, hu8, hrM⟩ := kM_use w_6
  obtain ⟨ea8, eg8⟩ := Prod.mk.inj hu8
  have hm : mS D mCl (fun q => s.heap.size ≤ q) s.heap ad1 (gM dA ad1 y1.1 y1.2.1 y1.2.2 sd (gEx dA ad1 x1 (gO dA f1))) H locs := by
    rw [ea8, eg8] at hm
    exact hm
  obtain ⟨hk9, ho9, hK9⟩ := cp_use hK hrel hrM
  refine lv_istore (lv' := [(6, .int r_5), (5, .int r_1), (0, .ref b), (1, .ref (ad1 0)), (2, .ref (ad1 1000)), (3, .ref (ad1 2000)), (4, .int (nI i))]) hx hb d_L_law_423 hl (by decide) rfl (fun ls hl => ?_)
  refine lv_aload_n hx hb d_L_law_425 rfl (lv_at hl 4 rfl) ?_
  refine m_roi (m_runV (As := []) (rest := []) ⟨hx, hb, hml, hown, hts⟩ (c_M_thrown l D dA ad1 (gM dA ad1 y1.1 y1.2.1 y1.2.2 sd (gEx dA ad1 x1 (gO dA f1))) H.size y1.1 y1.2.1 y1.2.2 sd (gEx dA ad1 x1 (gO dA f1)) rfl) (cwV 0 hts (gV k_680 k_677 k_678 k_679 k_4) rfl rfl rfl (by decide +kernel) ⟨Nat.le_of_ble_eq_true rfl, Nat.le_of_ble_eq_true rfl⟩) hm hA hC 1000 rfl gM_o rfl rfl rfl hl.1 rfl (Nat.le_of_ble_eq_true rfl) d_L_law_426 ⟨by show _ ≤ 601024; omega, by show _ ≤ 7293000; omega⟩) hm hA (fun r_9 H locs w_10 hm => ?_)
  refine lv_iload hx hb d_L_law_429 (lv_at hl 1 rfl) ?_
  refine lv_icmp_eq (tgt := 436) hx hb d_L_law_431 (by decide) (fun _ => ?_) (fun c9 => absurd (w_10.trans hk9) c9)
  refine lv_iload hx hb d_L_law_436 (lv_at hl 1 rfl) ?_
  refine lv_if_ne (tgt := 460) hx hb d_L_law_438 (by decide) (fun _ => ?_) (fun c0 => ?_)
  · refine lv_goto (tgt := 1511) hx hb d_L_law_460 (by decide) ?_
    refine W.widen (k := 36 + 4 * (n + 1)) (n := 1300 + 42 * (n + 1)) (by omega) (by omega) ?_
    exact kk ad1 x1 y1 f1 ls H locs hK9 (lv_sub hl [2, 3, 4, 5, 6] rfl) hm
  · refine lv_aload_n hx hb d_L_law_441 rfl (lv_at hl 5 rfl) ?_
    refine lv_iconst (v := 0) hx hb d_L_law_442 (by decide) ?_
    refine m_lald (v := f1 0) hx hb hC.1 hm 2000 rfl 1 ((gM_out (Or.inr (by decide))).trans ((gE_out (by decide)).trans gO_at)) rfl (vpc _ _ (by decide)) rfl d_L_law_443 ?_
    refine lv_iload hx hb d_L_law_444 (lv_at hl 0 rfl) ?_
    refine lv_if_eq (tgt := 453) hx hb d_L_law_446 (by decide) (fun c1 => ?_) (fun c1 => ?_)
    · refine lv_lconst (v := 0) hx hb d_L_law_453 (by decide) ?_
      refine W.lcmp hx hb d_L_law_454 ?_
      refine lv_if_eq (tgt := 460) hx hb d_L_law_455 (by decide) (fun _ => ?_) (fun c9 => absurd ((lg_eq _ _).mpr ((ho9 c0).trans (if_pos c1))) c9)
      refine lv_goto (tgt := 1511) hx hb d_L_law_460 (by decide) ?_
      refine W.widen (k := 36 + 4 * (n + 1)) (n := 1300 + 42 * (n + 1)) (by omega) (by omega) ?_
      exact kk ad1 x1 y1 f1 ls H locs hK9 (lv_sub hl [2, 3, 4, 5, 6] rfl) hm
    · refine lv_lconst (v := 1) hx hb d_L_law_449 (by decide) ?_
      refine lv_goto (tgt := 454) hx hb d_L_law_450 (by decide) ?_
      refine W.lcmp hx hb d_L_law_454 ?_
      refine lv_if_eq (tgt := 460) hx hb d_L_law_455 (by decide) (fun _ => ?_) (fun c9 => absurd ((lg_eq _ _).mpr ((ho9 c0).trans (if_neg c1))) c9)
      refine lv_goto (tgt := 1511) hx hb d_L_law_460 (by decide) ?_
      refine W.widen (k := 36 + 4 * (n + 1)) (n := 1300 + 42 * (n + 1)) (by omega) (by omega) ?_
      exact kk ad1 x1 y1 f1 ls H locs hK9 (lv_sub hl [2, 3, 4, 5, 6] rfl) hm
set_option maxHeartbeats 4000000 in
set_option maxRecDepth 100000 in
theorem lc_grind {p : Program} {l : Launch} {e : Env} {s : State} {m : MethodId} {b : Nat} {below : List Frame} {meth : Method} {c : Code} {D : va_G} {dA : Nat → ClassId} {Q : State → Prop} {sd : Int64} {L : Nat} {xs : Nat → Int32} {n i : Nat} (hlt : l.stackTraces = false) (C0 : lwC p s m meth c D dA b L xs) (hn : n < 512) (hi : i + 5 ≤ L) (kk : lwK p l e s m b below meth c D dA Q sd 1511 (n + 1) i) : lwK p l e s m b below meth c D dA Q sd 463 n i := by
  obtain ⟨⟨hx, hb, hr, hml, hown⟩, hts, ⟨hX, hbl, hL⟩, hlocks, hC⟩ := C0
  have hT : ∀ w ∈ mBig, w.before _ s = true := fun w h => hts w (List.mem_cons_of_mem _ h)
  have hA : ∀ q : Nat, s.heap.size ≤ q → (fun q => s.heap.size ≤ q) q := fun q h => h
  intro ad x y f ls H locs hK hl hm
  obtain ⟨I, J, F, si, tc, oc⟩ := x
  obtain ⟨A, B, S⟩ := y
  replace hl : lv_has ls 8 [(0, .ref b), (1, .ref (ad 0)), (2, .ref (ad 1000)), (3, .ref (ad 2000)), (4, .int (nI i))] := hl
  replace hm : mS D mCl (fun q => s.heap.size ≤ q) s.heap ad (gM dA ad A B S sd (gE dA ad I J F si tc oc (gO dA f))) H locs := hm
  refine lv_aload_n hx hb d_L_law_463 rfl (lv_at hl 1 rfl) ?_
  refine lw_arg hx hb hX hbl hL hm (lv_at hl 0 rfl) (lv_at hl 4 rfl) 1 (by decide) hi d_L_law_464 d_L_law_465 d_L_law_467 (by decide) d_L_law_468 d_L_law_469 ?_
  refine lw_arg hx hb hX hbl hL hm (lv_at hl 0 rfl) (lv_at hl 4 rfl) 2 (by decide) hi d_L_law_470 d_L_law_471 d_L_law_473 (by decide) d_L_law_474 d_L_law_475 ?_
  refine lv_aload_n hx hb d_L_law_476 rfl (lv_at hl 3 rfl) ?_
  refine m_calli (m_runSW (As := [.ref (ad 0), .int (xs (i + 1)), .int (xs (i + 2)), .ref (ad 2000)]) (rest := []) ⟨hx, hb, hml, hown, hts⟩ (c_L_grind l hlt D dA ad (gM dA ad A B S sd (gE dA ad I J F si tc oc (gO dA f))) H.size I J F si tc oc (gM dA ad A B S sd (gO dA f)) gEM.symm hK.ht (xs (i + 1)) (xs (i + 2)) hK.ho f ((gM_out (Or.inr (by decide))).trans gO_at)) (vx_cwSW 4 hts (gS k_341 k_339 k_340 k_0) rfl rfl rfl (by decide +kernel) ⟨Nat.le_of_ble_eq_true rfl, Nat.le_of_ble_eq_true rfl⟩) hm hA hC rfl hl.1 rfl (Nat.le_of_ble_eq_true rfl) d_L_law_477 ⟨by show _ ≤ 601024; omega, by show _ ≤ 7293000; omega⟩) hm hA (fun r_1 ad_4 G_3 H locs w_2 hm => ?_)
  obtain ⟨ad1, x1, f1, had, hu9, hrel⟩ := w_2
  obtain ⟨ea9, eg9⟩ := Prod.mk.inj hu9
  have hm : mS D mCl (fun q => s.heap.size ≤ q) s.heap ad1 (gM dA ad1 A B S sd (gEx dA ad1 x1 (gO dA f1))) H locs := by
    rw [ea9, eg9, law_w1 (fun k hk => had k (Or.inr hk))] at hm
    exact hm
  have hl : lv_has ls 8 [(0, .ref b), (1, .ref (ad1 0)), (2, .ref (ad1 1000)), (3, .ref (ad1 2000)), (4, .int (nI i))] := by
    rw [had 0 (Or.inl rfl), had 1000 (Or.inr (by decide)), had 2000 (Or.inr (by decide))]
    exact hl
  refine lv_istore (lv' := [(5, .int r_1), (0, .ref b), (1, .ref (ad1 0)), (2, .ref (ad1 1000)), (3, .ref (ad1 2000)), (4, .int (nI i))]) hx hb d_L_law_480 hl (by decide) rfl (fun ls hl => ?_)
  refine lv_aload_n hx hb d_L_law_482 rfl (lv_at hl 3 rfl) ?_
  refine lw_arg hx hb hX hbl hL hm (lv_at hl 1 rfl) (lv_at hl 5 rfl) 1 (by decide) hi d_L_law_483 d_L_law_484 d_L_law_486 (by decide) d_L_law_487 d_L_law_488 ?_
  refine lw_arg hx hb hX hbl hL hm (lv_at hl 1 rfl) (lv_at hl 5 rfl) 2 (by decide) hi d_L_law_489 d_L_law_490 d_L_law_492 (by decide) d_L_law_493 d_L_law_494 ?_
  refine m_calli (m_runV (As := [.int (xs (i + 1)), .int (xs (i + 2))]) (rest := []) ⟨hx, hb, hml, hown, hts⟩ (c_M_grind l D dA ad1 (gM dA ad1 A B S sd (gEx dA ad1 x1 (gO dA f1))) H.size A B S sd (gEx dA ad1 x1 (gO dA f1)) rfl tc hK.hS hK.ht (xs (i + 1)) (xs (i + 2))) (cwV 2 hts (gV k_717 k_714 k_715 k_716 k_4) rfl rfl rfl (by decide +kernel) ⟨Nat.le_of_ble_eq_true rfl, Nat.le_of_ble_eq_true rfl⟩) hm hA hC 1000 rfl gM_o rfl rfl rfl hl.1 rfl (Nat.le_of_ble_eq_true rfl) d_L_law_495 ⟨by show _ ≤ 601024; omega, by show _ ≤ 7293000; omega⟩) hm hA (fun r_5 ad_8 G_7 H locs w_6 hm => ?_)
  obtain ⟨y1, hu8, hrM⟩ := kM_grind w_6
  obtain ⟨ea8, eg8⟩ := Prod.mk.inj hu8
  have hm : mS D mCl (fun q => s.heap.size ≤ q) s.heap ad1 (gM dA ad1 y1.1 y1.2.1 y1.2.2 sd (gEx dA ad1 x1 (gO dA f1))) H locs := by
    rw [ea8, eg8] at hm
    exact hm
  obtain ⟨hk9, ho9, hK9⟩ := cp_grind hK hrel hrM
  refine lv_istore (lv' := [(6, .int r_5), (5, .int r_1), (0, .ref b), (1, .ref (ad1 0)), (2, .ref (ad1 1000)), (3, .ref (ad1 2000)), (4, .int (nI i))]) hx hb d_L_law_498 hl (by decide) rfl (fun ls hl => ?_)
  refine lv_aload_n hx hb d_L_law_500 rfl (lv_at hl 4 rfl) ?_
  refine m_roi (m_runV (As := []) (rest := []) ⟨hx, hb, hml, hown, hts⟩ (c_M_thrown l D dA ad1 (gM dA ad1 y1.1 y1.2.1 y1.2.2 sd (gEx dA ad1 x1 (gO dA f1))) H.size y1.1 y1.2.1 y1.2.2 sd (gEx dA ad1 x1 (gO dA f1)) rfl) (cwV 0 hts (gV k_680 k_677 k_678 k_679 k_4) rfl rfl rfl (by decide +kernel) ⟨Nat.le_of_ble_eq_true rfl, Nat.le_of_ble_eq_true rfl⟩) hm hA hC 1000 rfl gM_o rfl rfl rfl hl.1 rfl (Nat.le_of_ble_eq_true rfl) d_L_law_501 ⟨by show _ ≤ 601024; omega, by show _ ≤ 7293000; omega⟩) hm hA (fun r_9 H locs w_10 hm => ?_)
  refine lv_iload hx hb d_L_law_504 (lv_at hl 1 rfl) ?_
  refine lv_icmp_eq (tgt := 511) hx hb d_L_law_506 (by decide) (fun _ => ?_) (fun c9 => absurd (w_10.trans hk9) c9)
  refine lv_iload hx hb d_L_law_511 (lv_at hl 1 rfl) ?_
  refine lv_if_ne (tgt := 535) hx hb d_L_law_513 (by decide) (fun _ => ?_) (fun c0 => ?_)
  · refine lv_goto (tgt := 1511) hx hb d_L_law_535 (by decide) ?_
    refine W.widen (k := 36 + 4 * (n + 1)) (n := 1300 + 42 * (n + 1)) (by omega) (by omega) ?_
    exact kk ad1 x1 y1 f1 ls H locs hK9 (lv_sub hl [2, 3, 4, 5, 6] rfl) hm
  · refine lv_aload_n hx hb d_L_law_516 rfl (lv_at hl 5 rfl) ?_
    refine lv_iconst (v := 0) hx hb d_L_law_517 (by decide) ?_
    refine m_lald (v := f1 0) hx hb hC.1 hm 2000 rfl 1 ((gM_out (Or.inr (by decide))).trans ((gE_out (by decide)).trans gO_at)) rfl (vpc _ _ (by decide)) rfl d_L_law_518 ?_
    refine lv_iload hx hb d_L_law_519 (lv_at hl 0 rfl) ?_
    refine lv_if_eq (tgt := 528) hx hb d_L_law_521 (by decide) (fun c1 => ?_) (fun c1 => ?_)
    · refine lv_lconst (v := 0) hx hb d_L_law_528 (by decide) ?_
      refine W.lcmp hx hb d_L_law_529 ?_
      refine lv_if_eq (tgt := 535) hx hb d_L_law_530 (by decide) (fun _ => ?_) (fun c9 => absurd ((lg_eq _ _).mpr ((ho9 c0).trans (if_pos c1))) c9)
      refine lv_goto (tgt := 1511) hx hb d_L_law_535 (by decide) ?_
      refine W.widen (k := 36 + 4 * (n + 1)) (n := 1300 + 42 * (n + 1)) (by omega) (by omega) ?_
      exact kk ad1 x1 y1 f1 ls H locs hK9 (lv_sub hl [2, 3, 4, 5, 6] rfl) hm
    · refine lv_lconst (v := 1) hx hb d_L_law_524 (by decide) ?_
      refine lv_goto (tgt := 529) hx hb d_L_law_525 (by decide) ?_
      refine W.lcmp hx hb d_L_law_529 ?_
      refine lv_if_eq (tgt := 535) hx hb d_L_law_530 (by decide) (fun _ => ?_) (fun c9 => absurd ((lg_eq _ _).mpr ((ho9 c0).trans (if_neg c1))) c9)
      refine lv_goto (tgt := 1511) hx hb d_L_law_535 (by decide) ?_
      refine W.widen (k := 36 + 4 * (n + 1)) (n := 1300 + 42 * (n + 1)) (by omega) (by omega) ?_
      exact kk ad1 x1 y1 f1 ls H locs hK9 (lv_sub hl [2, 3, 4, 5, 6] rfl) hm
