set_option maxHeartbeats 4000000 in
set_option maxRecDepth 100000 in
theorem c_E_about (l : Launch) (hlt : l.stackTraces = false) (D : va_G) (dA : Nat → ClassId) (ad : Nat → Nat) (G : mG) (sz : Nat) (I : Nat → Nat → Int32) (J : Nat → Nat → Int64) (F : Nat → Nat → Nat → Int32) (si : Nat → Nat) (tc oc : Nat) (G0 : mG) (hG : G = gE dA ad I J F si tc oc G0) (ht : tc ≤ 12) (hs : ∀ i, i < tc → si i < 4) (p0 p1 : Int32) : vx_Met l y_E_about (.code y_E_about b_E_about 4 (some .long) :: mBig) ({ frames := 7, cells := 2, slots := 12, locals := 104 }) (mPc [.ref (ad 0), .int p0, .int p1] D mCl (mTys dA) mTx ad G sz) (mQl (fun (rv : Int64) (u : mU) => (∃ i, i < tc ∧ p0 = nI i ∧ ((p1 = 0 ∧ rv = J 1 i) ∨ (p1 = 1 ∧ rv = (I 5 i).toInt64) ∨ (p1 = 2 ∧ rv = (nI (si i)).toInt64) ∨ (p1 = 3 ∧ rv = ((if I 7 i = 0 then 0 else 1) + (if J 0 (si i) < J 1 i then 2 else 0) + (if I 8 i = 0 then 0 else 4) : Int32).toInt64) ∨ (p1 = 4 ∧ rv = J 2 i) ∨ (p1 = 5 ∧ rv = J 3 i))) ∧ u = (ad, G)) D mCl ad G sz) (mXC (fun (E : String) (u : mU) => (E = "java/lang/IndexOutOfBoundsException" ∧ ¬ ((∃ i, i < tc ∧ p0 = nI i) ∧ ¬ (p1.toInt < 0 ∨ 5 < p1.toInt))) ∧ u = (ad, G)) D mCl ad G sz) 2 12 (mA ad G sz) := by
  refine vx_ofW (cc := b_E_about) (maxL := 4) (ret := (some .long)) (by decide) rfl ?_
  intro p e s m args below meth c s₁ B hml hout hv
  obtain ⟨rfl, hsz, hw0, hC⟩ := hv
  have hx := B.exec
  have hb := B.bytes
  have hr := B.returns
  have hts := atoms_spec (ws := .code y_E_about b_E_about 4 (some .long) :: mBig) B.pre
  have hT : ∀ w ∈ mBig, w.before _ s = true := fun w h => hts w (List.mem_cons_of_mem _ h)
  have hown : s.vm.findClass "EdgeWear" = some m.cls := findClass_of_methodNamed B.named
  have hlocks := B.notSynchronized
  subst hsz
  have hm := mS.start hw0
  have hA : ∀ q : Nat, s.heap.size ≤ q → mA ad G s.heap.size q := fun q h => Or.inr h
  have hl := lv_entry ([.ref (ad 0), .int p0, .int p1]) (n := 4) (Nat.le_of_ble_eq_true rfl)
  rw [lg_entry_eq]
  generalize (lg_sl ([.ref (ad 0), .int p0, .int p1]) ++ List.replicate (4 - (lg_sl ([.ref (ad 0), .int p0, .int p1])).length) Slot.unset).toArray = ls at hl ⊢
  have hl : lv_has ls 4 [(0, .ref (ad 0)), (1, .int p0), (2, .int p1)] := hl
  refine lv_aload_n hx hb d_E_about_0 rfl (lv_at hl 0 rfl) ?_
  refine lv_iload_n hx hb d_E_about_1 rfl (lv_at hl 1 rfl) ?_
  refine x_roq (x_runV (As := [.int p0]) (rest := []) ⟨hx, hb, hml, hown, hts⟩ (c_E_toolAt l hlt D dA ad G s.heap.size I J F si tc oc G0 hG ht p0) (cwV 1 hts (gV k_323 k_320 k_322 ks_2 k_1) rfl rfl rfl (by decide +kernel) ⟨Nat.le_of_ble_eq_true rfl, Nat.le_of_ble_eq_true rfl⟩) hm hA hC 0 rfl ((congrFun hG 0).trans gE_c0) rfl rfl rfl hl.1 rfl (Nat.le_of_ble_eq_true rfl) d_E_about_2 ⟨Nat.le_of_ble_eq_true rfl, Nat.le_of_ble_eq_true rfl⟩) hm hA (fun E ce q9 H locs w_2 hm h7 h8 h9 => ?_) (fun r_1 H locs w_2 hm => ?_)
  · exact m_out hout hlocks hm h7 h8 h9 (by
      obtain ⟨rfl, hq⟩ := w_2
      exact ⟨⟨rfl, fun h => hq h.1⟩, rfl⟩) (by decide) (by decide)
  · obtain ⟨i, hi, epi, er⟩ := w_2
    subst er
    rw [show va_rf (some (ad (100 + i))) = .ref (ad (100 + i)) from rfl]
    refine lv_astore_n (lv' := [(3, .ref (ad (100 + i))), (0, .ref (ad 0)), (1, .int p0), (2, .int p1)]) hx hb d_E_about_5 rfl hl (by decide) rfl (fun ls hl => ?_)
    refine lv_iload_n hx hb d_E_about_6 rfl (lv_at hl 3 rfl) ?_
    have hsi := hs i hi
    rcases sw6 p1 with hsw | hsw | hsw | hsw | hsw | hsw | hsw
    · refine lv_tableIn (tgt := 44) hx hb d_E_about_7 (by rw [hsw]; decide) (by rw [hsw]; decide) (by rw [hsw]; rfl) (by decide) ?_
      refine lv_aload_n hx hb d_E_about_44 rfl (lv_at hl 0 rfl) ?_
      refine m_get (v := .long (J 1 i)) (C := R_To) (T := T_To) (N := 9) hx hb hT in_To hown hC.1 hm (100 + i) rfl ((congrFun hG (100 + i)).trans (gE_to hi ht)) rfl 4 (by decide) (hT _ k_264) (fun _ h9 => h9) rfl d_E_about_45 ?_
      refine W.widen (k := 2) (n := 12) (by omega) (by omega) ?_
      refine vx_ret ?_
      exact m_lret (v := J 1 i) hx hb hr hm (⟨⟨i, hi, epi, Or.inl ⟨hsw, rfl⟩⟩, rfl⟩) d_E_about_48 hlocks
    · refine lv_tableIn (tgt := 49) hx hb d_E_about_7 (by rw [hsw]; decide) (by rw [hsw]; decide) (by rw [hsw]; rfl) (by decide) ?_
      refine lv_aload_n hx hb d_E_about_49 rfl (lv_at hl 0 rfl) ?_
      refine m_get (v := .int (I 5 i)) (C := R_To) (T := T_To) (N := 9) hx hb hT in_To hown hC.1 hm (100 + i) rfl ((congrFun hG (100 + i)).trans (gE_to hi ht)) rfl 3 (by decide) (hT _ k_262) (fun _ h9 => h9) rfl d_E_about_50 ?_
      refine lv_i2l hx hb d_E_about_53 rfl ?_
      refine lv_topl (fun x_3 ex_3 => ?_)
      refine W.widen (k := 2) (n := 12) (by omega) (by omega) ?_
      refine vx_ret ?_
      exact m_lret (v := x_3) hx hb hr hm (⟨⟨i, hi, epi, Or.inr (Or.inl ⟨hsw, by rw [ex_3]⟩)⟩, rfl⟩) d_E_about_54 hlocks
    · refine lv_tableIn (tgt := 55) hx hb d_E_about_7 (by rw [hsw]; decide) (by rw [hsw]; decide) (by rw [hsw]; rfl) (by decide) ?_
      refine lv_aload_n hx hb d_E_about_55 rfl (lv_at hl 0 rfl) ?_
      refine m_get (v := .ref (ad (10 + si i))) (C := R_To) (T := T_To) (N := 9) hx hb hT in_To hown hC.1 hm (100 + i) rfl ((congrFun hG (100 + i)).trans (gE_to hi ht)) rfl 0 (by decide) (hT _ k_257) (fun _ h9 => h9) rfl d_E_about_56 ?_
      refine m_get (v := .int (nI (si i))) (C := R_So) (T := T_So) (N := 6) hx hb hT in_So hown hC.1 hm (10 + si i) rfl ((congrFun hG (10 + (si i))).trans (gE_so hsi)) rfl 0 (by decide) (hT _ k_34) (fun _ h9 => h9) rfl d_E_about_59 ?_
      refine lv_i2l hx hb d_E_about_62 rfl ?_
      refine lv_topl (fun x_4 ex_4 => ?_)
      refine W.widen (k := 2) (n := 12) (by omega) (by omega) ?_
      refine vx_ret ?_
      exact m_lret (v := x_4) hx hb hr hm (⟨⟨i, hi, epi, Or.inr (Or.inr (Or.inl ⟨hsw, by rw [ex_4]⟩))⟩, rfl⟩) d_E_about_63 hlocks
    · refine lv_tableIn (tgt := 64) hx hb d_E_about_7 (by rw [hsw]; decide) (by rw [hsw]; decide) (by rw [hsw]; rfl) (by decide) ?_
      refine lv_aload_n hx hb d_E_about_64 rfl (lv_at hl 0 rfl) ?_
      refine m_roi (m_runV (As := []) (rest := []) ⟨hx, hb, hml, hown, hts⟩ (c_To_marks l D dA ad G H.size (100 + i) (10 + si i) (200 + i) (I 6 i) (I 5 i) (J 1 i) (J 2 i) (J 3 i) (I 7 i) (I 8 i) (20 + si i) (nI (si i)) (I 2 (si i)) (J 0 (si i)) (I 3 (si i)) (I 4 (si i)) ((congrFun hG (100 + i)).trans (gE_to hi ht)) ((congrFun hG (10 + (si i))).trans (gE_so hsi))) (cwV 0 hts (gV k_361 k_358 k_359 k_360 k_11) rfl rfl rfl (by decide +kernel) ⟨Nat.le_of_ble_eq_true rfl, Nat.le_of_ble_eq_true rfl⟩) hm hA hC (100 + i) rfl ((congrFun hG (100 + i)).trans (gE_to hi ht)) rfl rfl rfl hl.1 rfl (Nat.le_of_ble_eq_true rfl) d_E_about_65 ⟨Nat.le_of_ble_eq_true rfl, Nat.le_of_ble_eq_true rfl⟩) hm hA (fun r_5 H locs w_6 hm => ?_)
      refine lv_i2l hx hb d_E_about_68 rfl ?_
      refine lv_topl (fun x_7 ex_7 => ?_)
      refine W.widen (k := 2) (n := 12) (by omega) (by omega) ?_
      refine vx_ret ?_
      exact m_lret (v := x_7) hx hb hr hm (⟨⟨i, hi, epi, Or.inr (Or.inr (Or.inr (Or.inl ⟨hsw, by rw [ex_7, w_6]⟩)))⟩, rfl⟩) d_E_about_69 hlocks
    · refine lv_tableIn (tgt := 70) hx hb d_E_about_7 (by rw [hsw]; decide) (by rw [hsw]; decide) (by rw [hsw]; rfl) (by decide) ?_
      refine lv_aload_n hx hb d_E_about_70 rfl (lv_at hl 0 rfl) ?_
      refine m_get (v := .long (J 2 i)) (C := R_To) (T := T_To) (N := 9) hx hb hT in_To hown hC.1 hm (100 + i) rfl ((congrFun hG (100 + i)).trans (gE_to hi ht)) rfl 5 (by decide) (hT _ k_266) (fun _ h9 => h9) rfl d_E_about_71 ?_
      refine W.widen (k := 2) (n := 12) (by omega) (by omega) ?_
      refine vx_ret ?_
      exact m_lret (v := J 2 i) hx hb hr hm (⟨⟨i, hi, epi, Or.inr (Or.inr (Or.inr (Or.inr (Or.inl ⟨hsw, rfl⟩))))⟩, rfl⟩) d_E_about_74 hlocks
    · refine lv_tableIn (tgt := 75) hx hb d_E_about_7 (by rw [hsw]; decide) (by rw [hsw]; decide) (by rw [hsw]; rfl) (by decide) ?_
      refine lv_aload_n hx hb d_E_about_75 rfl (lv_at hl 0 rfl) ?_
      refine m_get (v := .long (J 3 i)) (C := R_To) (T := T_To) (N := 9) hx hb hT in_To hown hC.1 hm (100 + i) rfl ((congrFun hG (100 + i)).trans (gE_to hi ht)) rfl 6 (by decide) (hT _ k_268) (fun _ h9 => h9) rfl d_E_about_76 ?_
      refine W.widen (k := 2) (n := 12) (by omega) (by omega) ?_
      refine vx_ret ?_
      exact m_lret (v := J 3 i) hx hb hr hm (⟨⟨i, hi, epi, Or.inr (Or.inr (Or.inr (Or.inr (Or.inr (⟨hsw, rfl⟩)))))⟩, rfl⟩) d_E_about_79 hlocks
    · refine lv_tableOut (tgt := 80) hx hb d_E_about_7 hsw (by decide) ?_
      exact m_throwS (cls := "java/lang/IndexOutOfBoundsException") (text := "no such what") (names := ["java/lang/RuntimeException", "java/lang/Exception"]) (tx := mTx) hx hb hlt hown (by decide +kernel) (by decide +kernel) (hT _ k_133) (hT _ k_8) (by decide +kernel) hC (at_IndexOutOfBoundsException hT hC.2.2.2) (good_IndexOutOfBoundsException) hm (hl.1.trans hml.symm) d_E_about_80 d_E_about_83 d_E_about_84 d_E_about_86 d_E_about_89 hout (Nat.le_of_ble_eq_true rfl) (Nat.le_of_ble_eq_true rfl) (Nat.le_of_ble_eq_true rfl) (Nat.le_of_ble_eq_true rfl) hlocks (⟨⟨rfl, fun h => h.2 hsw⟩, rfl⟩) (Nat.le_of_ble_eq_true rfl) (Nat.le_of_ble_eq_true rfl)

set_option maxHeartbeats 4000000 in
set_option maxRecDepth 100000 in
theorem c_E_spare (l : Launch) (hlt : l.stackTraces = false) (D : va_G) (dA : Nat → ClassId) (ad : Nat → Nat) (G : mG) (sz : Nat) (I : Nat → Nat → Int32) (J : Nat → Nat → Int64) (F : Nat → Nat → Nat → Int32) (si : Nat → Nat) (tc oc : Nat) (G0 : mG) (hG : G = gE dA ad I J F si tc oc G0) (ht : tc ≤ 12) (hs : ∀ i, i < tc → si i < 4) (p0 : Int32) : vx_Met l y_E_spare (.code y_E_spare b_E_spare 6 (some .int) :: mBig) ({ frames := 7, cells := 1, slots := 6, locals := 104 }) (mPc [.ref (ad 0), .int p0] D mCl (mTys dA) mTx ad G sz) (mQi (fun (rv : Int32) (u : mU) => (∃ i, i < 4 ∧ p0 = nI i ∧ rv = nI (eCnt (eSp I J si tc (nI i)) 12)) ∧ u = (ad, G)) D mCl ad G sz) (mXC (fun (E : String) (u : mU) => (E = "java/lang/IndexOutOfBoundsException" ∧ ¬ ∃ i, i < 4 ∧ p0 = nI i) ∧ u = (ad, G)) D mCl ad G sz) 1 6 (mA ad G sz) := by
  refine vx_ofW (cc := b_E_spare) (maxL := 6) (ret := (some .int)) (by decide) rfl ?_
  intro p e s m args below meth c s₁ B hml hout hv
  obtain ⟨rfl, hsz, hw0, hC⟩ := hv
  have hx := B.exec
  have hb := B.bytes
  have hr := B.returns
  have hts := atoms_spec (ws := .code y_E_spare b_E_spare 6 (some .int) :: mBig) B.pre
  have hT : ∀ w ∈ mBig, w.before _ s = true := fun w h => hts w (List.mem_cons_of_mem _ h)
  have hown : s.vm.findClass "EdgeWear" = some m.cls := findClass_of_methodNamed B.named
  have hlocks := B.notSynchronized
  subst hsz
  have hm := mS.start hw0
  have hA : ∀ q : Nat, s.heap.size ≤ q → mA ad G s.heap.size q := fun q h => Or.inr h
  have hl := lv_entry ([.ref (ad 0), .int p0]) (n := 6) (Nat.le_of_ble_eq_true rfl)
  rw [lg_entry_eq]
  generalize (lg_sl ([.ref (ad 0), .int p0]) ++ List.replicate (6 - (lg_sl ([.ref (ad 0), .int p0])).length) Slot.unset).toArray = ls at hl ⊢
  have hl : lv_has ls 6 [(0, .ref (ad 0)), (1, .int p0)] := hl
  refine lv_aload_n hx hb d_E_spare_0 rfl (lv_at hl 0 rfl) ?_
  refine lv_iload_n hx hb d_E_spare_1 rfl (lv_at hl 1 rfl) ?_
  refine x_roq (x_runV (As := [.int p0]) (rest := []) ⟨hx, hb, hml, hown, hts⟩ (c_E_sortAt l hlt D dA ad G s.heap.size I J F si tc oc G0 hG ht p0) (cwV 1 hts (gV k_132 k_129 k_131 ks_0 k_1) rfl rfl rfl (by decide +kernel) ⟨Nat.le_of_ble_eq_true rfl, Nat.le_of_ble_eq_true rfl⟩) hm hA hC 0 rfl ((congrFun hG 0).trans gE_c0) rfl rfl rfl hl.1 rfl (Nat.le_of_ble_eq_true rfl) d_E_spare_2 ⟨Nat.le_of_ble_eq_true rfl, Nat.le_of_ble_eq_true rfl⟩) hm hA (fun E ce q9 H locs w_2 hm h7 h8 h9 => ?_) (fun r_1 H locs w_2 hm => ?_)
  · exact m_out hout hlocks hm h7 h8 h9 (by
      obtain ⟨rfl, hq⟩ := w_2
      exact ⟨⟨rfl, hq⟩, rfl⟩) (by decide) (by decide)
  · obtain ⟨i, hi, epi, er⟩ := w_2
    subst er
    rw [show va_rf (some (ad (10 + i))) = .ref (ad (10 + i)) from rfl]
    refine m_get (v := .int (nI i)) (C := R_So) (T := T_So) (N := 6) hx hb hT in_So hown hC.1 hm (10 + i) rfl ((congrFun hG (10 + i)).trans (gE_so hi)) rfl 0 (by decide) (hT _ k_34) (fun _ h9 => h9) rfl d_E_spare_5 ?_
    refine lv_istore_n (lv' := [(2, .int (nI i)), (0, .ref (ad 0)), (1, .int p0)]) hx hb d_E_spare_8 rfl hl (by decide) rfl (fun ls hl => ?_)
    refine lv_iconst (v := 0) hx hb d_E_spare_9 (by decide) ?_
    refine lv_istore_n (lv' := [(3, .int 0), (2, .int (nI i)), (0, .ref (ad 0)), (1, .int p0)]) hx hb d_E_spare_10 rfl hl (by decide) rfl (fun ls hl => ?_)
    refine lv_iconst (v := 0) hx hb d_E_spare_11 (by decide) ?_
    refine lv_istore (lv' := [(4, .int 0), (3, .int 0), (2, .int (nI i)), (0, .ref (ad 0)), (1, .int p0)]) hx hb d_E_spare_12 hl (by decide) rfl (fun ls hl => ?_)
    refine m_loopH (nL := 6) (head := 14) (fun (q9 : Nat) => fun (x : Nat) => match x with | j => q9 + j = 13 ∧ j ≤ 12 ∧ True) (fun (x : Nat) => match x with | j => [(0, .ref (ad 0)), (2, .int (nI i)), (3, .int (nI (eCnt (eSp I J si tc (nI i)) j))), (4, .int (nI j))]) (fun _ => G) (fun j h => by have h1 := h.1; have h2 := h.2.1; omega) (fun q9 x ls H locs hI hl hm ih14 => ?_) (12) (0) (⟨by omega, by omega, trivial⟩) (lv_sub hl [3, 2, 1, 0] rfl) hm
    obtain ⟨j, ej⟩ : ∃ z, z = x := ⟨_, rfl⟩
    subst ej
    replace hI : (fun (q9 : Nat) => q9 + j = 13 ∧ j ≤ 12 ∧ True) (q9 + 1) := hI
    have hl : lv_has ls 6 [(0, .ref (ad 0)), (2, .int (nI i)), (3, .int (nI (eCnt (eSp I J si tc (nI i)) j))), (4, .int (nI j))] := hl
    refine lv_iload hx hb d_E_spare_14 (lv_at hl 3 rfl) ?_
    refine lv_aload_n hx hb d_E_spare_16 rfl (lv_at hl 0 rfl) ?_
    refine m_get (v := .ref (ad 3)) (C := R_E) (T := T_E) (N := 8) hx hb hT in_E hown hC.1 hm 0 rfl ((congrFun hG 0).trans gE_c0) rfl 3 (by decide) (hT _ k_90) (fun _ h9 => h9) rfl d_E_spare_17 ?_
    refine m_alen (v := 12) hx hb hC.1 hm 3 rfl 4 ((congrFun hG 3).trans gE_c3) rfl rfl d_E_spare_20 ?_
    refine lv_icmp_ge (tgt := 56) hx hb d_E_spare_21 (by decide) (fun c_21 => ?_) (fun c_21 => ?_)
    · have hge : j = 12 := by
        have := (nI_leI (a := 12) (by decide) (by omega)).mp c_21
        omega
      refine lv_iload_n hx hb d_E_spare_56 rfl (lv_at hl 2 rfl) ?_
      refine vx_ret ?_
      exact m_iret (v := nI (eCnt (eSp I J si tc (nI i)) j)) hx hb hr hm (⟨⟨i, hi, epi, by rw [hge]⟩, rfl⟩) d_E_spare_57 hlocks
    · have hj12 : j < 12 := (nI_ltI (b := 12) (by omega) (by decide)).mp (Int32.not_le.mp c_21)
      refine lv_aload_n hx hb d_E_spare_24 rfl (lv_at hl 0 rfl) ?_
      refine m_get (v := .ref (ad 3)) (C := R_E) (T := T_E) (N := 8) hx hb hT in_E hown hC.1 hm 0 rfl ((congrFun hG 0).trans gE_c0) rfl 3 (by decide) (hT _ k_90) (fun _ h9 => h9) rfl d_E_spare_25 ?_
      refine lv_iload hx hb d_E_spare_28 (lv_at hl 3 rfl) ?_
      by_cases htc : j < tc
      · have hsi := hs j htc
        refine m_aald (v := .ref (ad (100 + j))) hx hb hC.1 hm 3 rfl 4 ((congrFun hG 3).trans gE_c3) rfl (vp_in_nI (by omega) (by decide)) (by rw [nI_clamp (by omega)]; simp only [htc, if_true]; rfl) d_E_spare_30 ?_
        refine lv_astore (lv' := [(5, .ref (ad (100 + j))), (0, .ref (ad 0)), (2, .int (nI i)), (3, .int (nI (eCnt (eSp I J si tc (nI i)) j))), (4, .int (nI j))]) hx hb d_E_spare_31 hl (by decide) rfl (fun ls hl => ?_)
        refine lv_aload hx hb d_E_spare_33 (lv_at hl 0 rfl) ?_
        refine lv_ifnull hx hb d_E_spare_35 ?_
        refine lv_aload hx hb d_E_spare_38 (lv_at hl 0 rfl) ?_
        refine lv_iload_n hx hb d_E_spare_40 rfl (lv_at hl 2 rfl) ?_
        refine m_roi (m_runV (As := [.int (nI i)]) (rest := []) ⟨hx, hb, hml, hown, hts⟩ (c_To_isSpareOf l D dA ad G H.size (100 + j) (10 + si j) (200 + j) (I 6 j) (I 5 j) (J 1 j) (J 2 j) (J 3 j) (I 7 j) (I 8 j) (20 + si j) (nI (si j)) (I 2 (si j)) (J 0 (si j)) (I 3 (si j)) (I 4 (si j)) (nI i) ((congrFun hG (100 + j)).trans (gE_to htc ht)) ((congrFun hG (10 + (si j))).trans (gE_so hsi))) (cwV 1 hts (gV k_374 k_371 k_372 k_373 k_11) rfl rfl rfl (by decide +kernel) ⟨Nat.le_of_ble_eq_true rfl, Nat.le_of_ble_eq_true rfl⟩) hm hA hC (100 + j) rfl ((congrFun hG (100 + j)).trans (gE_to htc ht)) rfl rfl rfl hl.1 rfl (Nat.le_of_ble_eq_true rfl) d_E_spare_41 ⟨Nat.le_of_ble_eq_true rfl, Nat.le_of_ble_eq_true rfl⟩) hm hA (fun r_3 H locs w_4 hm => ?_)
        refine lv_if_eq (tgt := 50) hx hb d_E_spare_44 (by decide) (fun c_44 => ?_) (fun c_44 => ?_)
        · have hP : ¬ eSp I J si tc (nI i) j = true := fun h => by
            have h8 := of_decide_eq_true h
            have h9 := w_4
            rw [if_pos h8.2] at h9
            rw [h9] at c_44
            exact absurd c_44 (by decide)
          have hl : lv_has ls 6 [(5, .ref (ad (100 + j))), (0, .ref (ad 0)), (2, .int (nI i)), (3, .int (nI (eCnt (eSp I J si tc (nI i)) (j + 1)))), (4, .int (nI j))] := by rw [eCnt_neg hP]; exact hl
          refine lv_iinc (v := nI (j + 1)) (lv' := [(4, .int (nI (j + 1))), (5, .ref (ad (100 + j))), (0, .ref (ad 0)), (2, .int (nI i)), (3, .int (nI (eCnt (eSp I J si tc (nI i)) (j + 1))))]) hx hb d_E_spare_50 hl (k := 4) rfl (nI_1 _) (by decide) rfl (fun ls hl => ?_)
          refine lv_goto (tgt := 14) hx hb d_E_spare_53 (by decide) ?_
          exact ih14 (j + 1) ls H locs (⟨by omega, by omega, trivial⟩) (lv_sub hl [2, 3, 4, 0] rfl) hm
        · refine lv_iinc (v := nI ((eCnt (eSp I J si tc (nI i)) j) + 1)) (lv' := [(3, .int (nI ((eCnt (eSp I J si tc (nI i)) j) + 1))), (5, .ref (ad (100 + j))), (0, .ref (ad 0)), (2, .int (nI i)), (4, .int (nI j))]) hx hb d_E_spare_47 hl (k := 3) rfl (nI_1 _) (by decide) rfl (fun ls hl => ?_)
          have hP : eSp I J si tc (nI i) j = true := decide_eq_true (Classical.byContradiction (fun hq => c_44 (by rw [w_4, if_neg (fun h => hq ⟨htc, h⟩)])))
          have hl : lv_has ls 6 [(3, .int (nI (eCnt (eSp I J si tc (nI i)) (j + 1)))), (5, .ref (ad (100 + j))), (0, .ref (ad 0)), (2, .int (nI i)), (4, .int (nI j))] := by rw [eCnt_pos hP]; exact hl
          refine lv_iinc (v := nI (j + 1)) (lv' := [(4, .int (nI (j + 1))), (3, .int (nI (eCnt (eSp I J si tc (nI i)) (j + 1)))), (5, .ref (ad (100 + j))), (0, .ref (ad 0)), (2, .int (nI i))]) hx hb d_E_spare_50 hl (k := 4) rfl (nI_1 _) (by decide) rfl (fun ls hl => ?_)
          refine lv_goto (tgt := 14) hx hb d_E_spare_53 (by decide) ?_
          exact ih14 (j + 1) ls H locs (⟨by omega, by omega, trivial⟩) (lv_sub hl [3, 4, 1, 0] rfl) hm
      · refine m_aald (v := .null) hx hb hC.1 hm 3 rfl 4 ((congrFun hG 3).trans gE_c3) rfl (vp_in_nI (by omega) (by decide)) (by rw [nI_clamp (by omega)]; simp only [htc, if_false]; rfl) d_E_spare_30 ?_
        refine lv_astoreN (lv' := [(5, .null), (0, .ref (ad 0)), (2, .int (nI i)), (3, .int (nI (eCnt (eSp I J si tc (nI i)) j))), (4, .int (nI j))]) hx hb d_E_spare_31 hl (by decide) rfl (fun ls hl => ?_)
        refine lv_aloadN hx hb d_E_spare_33 (lv_at hl 0 rfl) ?_
        refine lv_ifnullN (tgt := 50) hx hb d_E_spare_35 (by decide) ?_
        have hP : ¬ eSp I J si tc (nI i) j = true := fun h => htc (of_decide_eq_true h).1
        have hl : lv_has ls 6 [(5, .null), (0, .ref (ad 0)), (2, .int (nI i)), (3, .int (nI (eCnt (eSp I J si tc (nI i)) (j + 1)))), (4, .int (nI j))] := by rw [eCnt_neg hP]; exact hl
        refine lv_iinc (v := nI (j + 1)) (lv' := [(4, .int (nI (j + 1))), (5, .null), (0, .ref (ad 0)), (2, .int (nI i)), (3, .int (nI (eCnt (eSp I J si tc (nI i)) (j + 1))))]) hx hb d_E_spare_50 hl (k := 4) rfl (nI_1 _) (by decide) rfl (fun ls hl => ?_)
        refine lv_goto (tgt := 14) hx hb d_E_spare_53 (by decide) ?_
        exact ih14 (j + 1) ls H locs (⟨by omega, by omega, trivial⟩) (lv_sub hl [2, 3, 4, 0] rfl) hm

set_option maxHeartbeats 4000000 in
set_option maxRecDepth 100000 in
theorem c_E_nextSpare (l : Launch) (D : va_G) (dA : Nat → ClassId) (ad : Nat → Nat) (G : mG) (sz : Nat) (I : Nat → Nat → Int32) (J : Nat → Nat → Int64) (F : Nat → Nat → Nat → Int32) (si : Nat → Nat) (tc oc : Nat) (G0 : mG) (hG : G = gE dA ad I J F si tc oc G0) (ht : tc ≤ 12) (hs : ∀ i, i < tc → si i < 4) (p0 : Int32) : Met l y_E_nextSpare (.code y_E_nextSpare b_E_nextSpare 6 (some .int) :: mBig) ({ frames := 1, cells := 0, slots := 0, locals := 21 }) (mPc [.ref (ad 0), .int p0] D mCl (mTys dA) mTx ad G sz) (mQi (fun (rv : Int32) (u : mU) => (rv = (eNx (eSp I J si tc p0) (I 5) 12).1) ∧ u = (ad, G)) D mCl ad G sz) 0 0 (mA ad G sz) := by
  refine Met.ofW (cc := b_E_nextSpare) (maxL := 6) (ret := (some .int)) (by decide) rfl ?_
  intro p e s m args below meth c s₁ B hml hv
  obtain ⟨rfl, hsz, hw0, hC⟩ := hv
  have hx := B.exec
  have hb := B.bytes
  have hr := B.returns
  have hts := atoms_spec (ws := .code y_E_nextSpare b_E_nextSpare 6 (some .int) :: mBig) B.pre
  have hT : ∀ w ∈ mBig, w.before _ s = true := fun w h => hts w (List.mem_cons_of_mem _ h)
  have hown : s.vm.findClass "EdgeWear" = some m.cls := findClass_of_methodNamed B.named
  have hlocks := B.notSynchronized
  subst hsz
  have hm := mS.start hw0
  have hA : ∀ q : Nat, s.heap.size ≤ q → mA ad G s.heap.size q := fun q h => Or.inr h
  have hl := lv_entry ([.ref (ad 0), .int p0]) (n := 6) (Nat.le_of_ble_eq_true rfl)
  rw [lg_entry_eq]
  generalize (lg_sl ([.ref (ad 0), .int p0]) ++ List.replicate (6 - (lg_sl ([.ref (ad 0), .int p0])).length) Slot.unset).toArray = ls at hl ⊢
  have hl : lv_has ls 6 [(0, .ref (ad 0)), (1, .int p0)] := hl
  refine lv_iconst (v := (-1)) hx hb d_E_nextSpare_0 (by decide) ?_
  refine lv_istore_n (lv' := [(2, .int (-1)), (0, .ref (ad 0)), (1, .int p0)]) hx hb d_E_nextSpare_1 rfl hl (by decide) rfl (fun ls hl => ?_)
  refine lv_ldcw (v := 1000001) hx hb hown (hT _ k_386) d_E_nextSpare_2 ?_
  refine lv_istore_n (lv' := [(3, .int 1000001), (2, .int (-1)), (0, .ref (ad 0)), (1, .int p0)]) hx hb d_E_nextSpare_5 rfl hl (by decide) rfl (fun ls hl => ?_)
  refine lv_iconst (v := 0) hx hb d_E_nextSpare_6 (by decide) ?_
  refine lv_istore (lv' := [(4, .int 0), (3, .int 1000001), (2, .int (-1)), (0, .ref (ad 0)), (1, .int p0)]) hx hb d_E_nextSpare_7 hl (by decide) rfl (fun ls hl => ?_)
  refine m_loopH (nL := 6) (head := 9) (fun (q9 : Nat) => fun (x : Nat) => match x with | j => q9 + j = 13 ∧ j ≤ 12 ∧ True) (fun (x : Nat) => match x with | j => [(0, .ref (ad 0)), (1, .int p0), (2, .int ((eNx (eSp I J si tc p0) (I 5) j).1)), (3, .int ((eNx (eSp I J si tc p0) (I 5) j).2)), (4, .int (nI j))]) (fun _ => G) (fun j h => by have h1 := h.1; have h2 := h.2.1; omega) (fun q9 x ls H locs hI hl hm ih9 => ?_) (12) (0) (⟨by omega, by omega, trivial⟩) (lv_sub hl [3, 4, 2, 1, 0] rfl) hm
  obtain ⟨j, ej⟩ : ∃ z, z = x := ⟨_, rfl⟩
  subst ej
  replace hI : (fun (q9 : Nat) => q9 + j = 13 ∧ j ≤ 12 ∧ True) (q9 + 1) := hI
  have hl : lv_has ls 6 [(0, .ref (ad 0)), (1, .int p0), (2, .int ((eNx (eSp I J si tc p0) (I 5) j).1)), (3, .int ((eNx (eSp I J si tc p0) (I 5) j).2)), (4, .int (nI j))] := hl
  refine lv_iload hx hb d_E_nextSpare_9 (lv_at hl 4 rfl) ?_
  refine lv_aload_n hx hb d_E_nextSpare_11 rfl (lv_at hl 0 rfl) ?_
  refine m_get (v := .ref (ad 3)) (C := R_E) (T := T_E) (N := 8) hx hb hT in_E hown hC.1 hm 0 rfl ((congrFun hG 0).trans gE_c0) rfl 3 (by decide) (hT _ k_90) (fun _ h9 => h9) rfl d_E_nextSpare_12 ?_
  refine m_alen (v := 12) hx hb hC.1 hm 3 rfl 4 ((congrFun hG 3).trans gE_c3) rfl rfl d_E_nextSpare_15 ?_
  refine lv_icmp_ge (tgt := 66) hx hb d_E_nextSpare_16 (by decide) (fun c_16 => ?_) (fun c_16 => ?_)
  · have hge : j = 12 := by
      have := (nI_leI (a := 12) (by decide) (by omega)).mp c_16
      omega
    refine lv_iload_n hx hb d_E_nextSpare_66 rfl (lv_at hl 2 rfl) ?_
    exact m_iret (v := (eNx (eSp I J si tc p0) (I 5) j).1) hx hb hr hm (⟨by rw [hge], rfl⟩) d_E_nextSpare_67 hlocks
  · have hj12 : j < 12 := (nI_ltI (b := 12) (by omega) (by decide)).mp (Int32.not_le.mp c_16)
    refine lv_aload_n hx hb d_E_nextSpare_19 rfl (lv_at hl 0 rfl) ?_
    refine m_get (v := .ref (ad 3)) (C := R_E) (T := T_E) (N := 8) hx hb hT in_E hown hC.1 hm 0 rfl ((congrFun hG 0).trans gE_c0) rfl 3 (by decide) (hT _ k_90) (fun _ h9 => h9) rfl d_E_nextSpare_20 ?_
    refine lv_iload hx hb d_E_nextSpare_23 (lv_at hl 4 rfl) ?_
    by_cases htc : j < tc
    · have hsi := hs j htc
      refine m_aald (v := .ref (ad (100 + j))) hx hb hC.1 hm 3 rfl 4 ((congrFun hG 3).trans gE_c3) rfl (vp_in_nI (by omega) (by decide)) (by rw [nI_clamp (by omega)]; simp only [htc, if_true]; rfl) d_E_nextSpare_25 ?_
      refine lv_astore (lv' := [(5, .ref (ad (100 + j))), (0, .ref (ad 0)), (1, .int p0), (2, .int ((eNx (eSp I J si tc p0) (I 5) j).1)), (3, .int ((eNx (eSp I J si tc p0) (I 5) j).2)), (4, .int (nI j))]) hx hb d_E_nextSpare_26 hl (by decide) rfl (fun ls hl => ?_)
      refine lv_aload hx hb d_E_nextSpare_28 (lv_at hl 0 rfl) ?_
      refine lv_ifnull hx hb d_E_nextSpare_30 ?_
      refine lv_aload hx hb d_E_nextSpare_33 (lv_at hl 0 rfl) ?_
      refine lv_iload_n hx hb d_E_nextSpare_35 rfl (lv_at hl 2 rfl) ?_
      refine m_roi (m_runV (As := [.int p0]) (rest := []) ⟨hx, hb, hml, hown, hts⟩ (c_To_isSpareOf l D dA ad G H.size (100 + j) (10 + si j) (200 + j) (I 6 j) (I 5 j) (J 1 j) (J 2 j) (J 3 j) (I 7 j) (I 8 j) (20 + si j) (nI (si j)) (I 2 (si j)) (J 0 (si j)) (I 3 (si j)) (I 4 (si j)) p0 ((congrFun hG (100 + j)).trans (gE_to htc ht)) ((congrFun hG (10 + (si j))).trans (gE_so hsi))) (cwV 1 hts (gV k_374 k_371 k_372 k_373 k_11) rfl rfl rfl (by decide +kernel) ⟨Nat.le_of_ble_eq_true rfl, Nat.le_of_ble_eq_true rfl⟩) hm hA hC (100 + j) rfl ((congrFun hG (100 + j)).trans (gE_to htc ht)) rfl rfl rfl hl.1 rfl (Nat.le_of_ble_eq_true rfl) d_E_nextSpare_36 ⟨Nat.le_of_ble_eq_true rfl, Nat.le_of_ble_eq_true rfl⟩) hm hA (fun r_1 H locs w_2 hm => ?_)
      refine lv_if_eq (tgt := 60) hx hb d_E_nextSpare_39 (by decide) (fun c_39 => ?_) (fun c_39 => ?_)
      · have hP : ¬ eSp I J si tc p0 j = true := fun h => by
          have h8 := of_decide_eq_true h
          have h9 := w_2
          rw [if_pos h8.2] at h9
          rw [h9] at c_39
          exact absurd c_39 (by decide)
        have hl : lv_has ls 6 [(5, .ref (ad (100 + j))), (0, .ref (ad 0)), (1, .int p0), (2, .int ((eNx (eSp I J si tc p0) (I 5) (j + 1)).1)), (3, .int ((eNx (eSp I J si tc p0) (I 5) (j + 1)).2)), (4, .int (nI j))] := by rw [eNx_neg (fun h => hP h.1)]; exact hl
        refine lv_iinc (v := nI (j + 1)) (lv' := [(4, .int (nI (j + 1))), (5, .ref (ad (100 + j))), (0, .ref (ad 0)), (1, .int p0), (2, .int ((eNx (eSp I J si tc p0) (I 5) (j + 1)).1)), (3, .int ((eNx (eSp I J si tc p0) (I 5) (j + 1)).2))]) hx hb d_E_nextSpare_60 hl (k := 5) rfl (nI_1 _) (by decide) rfl (fun ls hl => ?_)
        refine lv_goto (tgt := 9) hx hb d_E_nextSpare_63 (by decide) ?_
        exact ih9 (j + 1) ls H locs (⟨by omega, by omega, trivial⟩) (lv_sub hl [2, 3, 4, 5, 0] rfl) hm
      · refine lv_aload hx hb d_E_nextSpare_42 (lv_at hl 0 rfl) ?_
        refine m_get (v := .int (I 5 j)) (C := R_To) (T := T_To) (N := 9) hx hb hT in_To hown hC.1 hm (100 + j) rfl ((congrFun hG (100 + j)).trans (gE_to htc ht)) rfl 3 (by decide) (hT _ k_262) (fun _ h9 => h9) rfl d_E_nextSpare_44 ?_
        refine lv_iload_n hx hb d_E_nextSpare_47 rfl (lv_at hl 4 rfl) ?_
        refine lv_icmp_ge (tgt := 60) hx hb d_E_nextSpare_48 (by decide) (fun c_48 => ?_) (fun c_48 => ?_)
        · have hP : eSp I J si tc p0 j = true := decide_eq_true (Classical.byContradiction (fun hq => c_39 (by rw [w_2, if_neg (fun h => hq ⟨htc, h⟩)])))
          have hl : lv_has ls 6 [(5, .ref (ad (100 + j))), (0, .ref (ad 0)), (1, .int p0), (2, .int ((eNx (eSp I J si tc p0) (I 5) (j + 1)).1)), (3, .int ((eNx (eSp I J si tc p0) (I 5) (j + 1)).2)), (4, .int (nI j))] := by rw [eNx_neg (fun h => Int32.not_lt.mpr c_48 h.2)]; exact hl
          refine lv_iinc (v := nI (j + 1)) (lv' := [(4, .int (nI (j + 1))), (5, .ref (ad (100 + j))), (0, .ref (ad 0)), (1, .int p0), (2, .int ((eNx (eSp I J si tc p0) (I 5) (j + 1)).1)), (3, .int ((eNx (eSp I J si tc p0) (I 5) (j + 1)).2))]) hx hb d_E_nextSpare_60 hl (k := 5) rfl (nI_1 _) (by decide) rfl (fun ls hl => ?_)
          refine lv_goto (tgt := 9) hx hb d_E_nextSpare_63 (by decide) ?_
          exact ih9 (j + 1) ls H locs (⟨by omega, by omega, trivial⟩) (lv_sub hl [2, 3, 4, 5, 0] rfl) hm
        · refine lv_iload hx hb d_E_nextSpare_51 (lv_at hl 5 rfl) ?_
          refine lv_istore_n (lv' := [(2, .int (nI j)), (5, .ref (ad (100 + j))), (0, .ref (ad 0)), (1, .int p0), (3, .int ((eNx (eSp I J si tc p0) (I 5) j).2)), (4, .int (nI j))]) hx hb d_E_nextSpare_53 rfl hl (by decide) rfl (fun ls hl => ?_)
          refine lv_aload hx hb d_E_nextSpare_54 (lv_at hl 1 rfl) ?_
          refine m_get (v := .int (I 5 j)) (C := R_To) (T := T_To) (N := 9) hx hb hT in_To hown hC.1 hm (100 + j) rfl ((congrFun hG (100 + j)).trans (gE_to htc ht)) rfl 3 (by decide) (hT _ k_262) (fun _ h9 => h9) rfl d_E_nextSpare_56 ?_
          refine lv_istore_n (lv' := [(3, .int (I 5 j)), (2, .int (nI j)), (5, .ref (ad (100 + j))), (0, .ref (ad 0)), (1, .int p0), (4, .int (nI j))]) hx hb d_E_nextSpare_59 rfl hl (by decide) rfl (fun ls hl => ?_)
          have hP : eSp I J si tc p0 j = true := decide_eq_true (Classical.byContradiction (fun hq => c_39 (by rw [w_2, if_neg (fun h => hq ⟨htc, h⟩)])))
          have hl : lv_has ls 6 [(3, .int ((eNx (eSp I J si tc p0) (I 5) (j + 1)).2)), (2, .int ((eNx (eSp I J si tc p0) (I 5) (j + 1)).1)), (5, .ref (ad (100 + j))), (0, .ref (ad 0)), (1, .int p0), (4, .int (nI j))] := by rw [eNx_pos hP (Int32.not_le.mp c_48)]; exact hl
          refine lv_iinc (v := nI (j + 1)) (lv' := [(4, .int (nI (j + 1))), (3, .int ((eNx (eSp I J si tc p0) (I 5) (j + 1)).2)), (2, .int ((eNx (eSp I J si tc p0) (I 5) (j + 1)).1)), (5, .ref (ad (100 + j))), (0, .ref (ad 0)), (1, .int p0)]) hx hb d_E_nextSpare_60 hl (k := 5) rfl (nI_1 _) (by decide) rfl (fun ls hl => ?_)
          refine lv_goto (tgt := 9) hx hb d_E_nextSpare_63 (by decide) ?_
          exact ih9 (j + 1) ls H locs (⟨by omega, by omega, trivial⟩) (lv_sub hl [4, 5, 2, 1, 0] rfl) hm
    · refine m_aald (v := .null) hx hb hC.1 hm 3 rfl 4 ((congrFun hG 3).trans gE_c3) rfl (vp_in_nI (by omega) (by decide)) (by rw [nI_clamp (by omega)]; simp only [htc, if_false]; rfl) d_E_nextSpare_25 ?_
      refine lv_astoreN (lv' := [(5, .null), (0, .ref (ad 0)), (1, .int p0), (2, .int ((eNx (eSp I J si tc p0) (I 5) j).1)), (3, .int ((eNx (eSp I J si tc p0) (I 5) j).2)), (4, .int (nI j))]) hx hb d_E_nextSpare_26 hl (by decide) rfl (fun ls hl => ?_)
      refine lv_aloadN hx hb d_E_nextSpare_28 (lv_at hl 0 rfl) ?_
      refine lv_ifnullN (tgt := 60) hx hb d_E_nextSpare_30 (by decide) ?_
      have hP : ¬ eSp I J si tc p0 j = true := fun h => htc (of_decide_eq_true h).1
      have hl : lv_has ls 6 [(5, .null), (0, .ref (ad 0)), (1, .int p0), (2, .int ((eNx (eSp I J si tc p0) (I 5) (j + 1)).1)), (3, .int ((eNx (eSp I J si tc p0) (I 5) (j + 1)).2)), (4, .int (nI j))] := by rw [eNx_neg (fun h => hP h.1)]; exact hl
      refine lv_iinc (v := nI (j + 1)) (lv' := [(4, .int (nI (j + 1))), (5, .null), (0, .ref (ad 0)), (1, .int p0), (2, .int ((eNx (eSp I J si tc p0) (I 5) (j + 1)).1)), (3, .int ((eNx (eSp I J si tc p0) (I 5) (j + 1)).2))]) hx hb d_E_nextSpare_60 hl (k := 5) rfl (nI_1 _) (by decide) rfl (fun ls hl => ?_)
      refine lv_goto (tgt := 9) hx hb d_E_nextSpare_63 (by decide) ?_
      exact ih9 (j + 1) ls H locs (⟨by omega, by omega, trivial⟩) (lv_sub hl [2, 3, 4, 5, 0] rfl) hm
