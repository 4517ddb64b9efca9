/-! calls and ends over worlds by roles -/
def mB (D : va_G) (cl : List vw_C) (A : Nat → Prop) (u : mU) (t : State) : Prop := mw D cl u.1 u.2 t.heap ∧ ∀ (r : Nat) (e : va_E), u.2 r = some e → A (u.1 r)
def mPc (av : List Value) (D : va_G) (cl : List vw_C) (tys : List (ClassId × FieldType)) (tx : List (String × Nat × String)) (ad : Nat → Nat) (G : mG) (sz : Nat) : Array Value → State → Prop := va_Pc av (fun U => U.heap.size = sz ∧ mw D cl ad G U.heap ∧ mC D cl tys tx (mA ad G sz) U U.heap)
abbrev mQi (post : Int32 → mU → Prop) (D : va_G) (cl : List vw_C) (ad : Nat → Nat) (G : mG) (sz : Nat) : Array Value → State → Outcome → State → Prop := va_Qi post (mB D cl (mA ad G sz)) (mA ad G sz)
abbrev mQl (post : Int64 → mU → Prop) (D : va_G) (cl : List vw_C) (ad : Nat → Nat) (G : mG) (sz : Nat) : Array Value → State → Outcome → State → Prop := va_Ql post (mB D cl (mA ad G sz)) (mA ad G sz)
abbrev mQv (post : mU → Prop) (D : va_G) (cl : List vw_C) (ad : Nat → Nat) (G : mG) (sz : Nat) : Array Value → State → Outcome → State → Prop := va_Qv post (mB D cl (mA ad G sz)) (mA ad G sz)
abbrev mQq (post : Option Nat → mU → Prop) (D : va_G) (cl : List vw_C) (ad : Nat → Nat) (G : mG) (sz : Nat) : Array Value → State → Outcome → State → Prop := va_Qq post (mB D cl (mA ad G sz)) (mA ad G sz)
abbrev mXC (px : String → mU → Prop) (D : va_G) (cl : List vw_C) (ad : Nat → Nat) (G : mG) (sz : Nat) : String → State → State → Prop := vx_X (fun _ : mU => True) (fun E u t => px E u ∧ mB D cl (mA ad G sz) u t) (mA ad G sz)
section MCALLS
variable {p : Program} {l : Launch} {e : Env} {R : Room} {s : State} {m : MethodId} {args : Array Value} {below : List Frame} {meth : Method} {c : Code} {H : Heap} {locs : List Loc} {cells slots : Nat} {Q : State → Prop}
variable {cc : ByteArray} {pc : Nat} {ls : Array Slot} {rest st0 : List Value} {D : va_G} {cl : List vw_C} {A : Nat → Prop} {a : Array Value} {b : Nat} {tys : List (ClassId × FieldType)} {tx : List (String × Nat × String)} {ad ad0 : Nat → Nat} {G G0 : mG} {mc ms : Nat}
theorem mPc.blind {av : List Value} {sz : Nat} : FrameBlind (mPc av D cl tys tx ad G sz) := by
  intro a U g mk h
  obtain ⟨h1, h2, h3, h4, h5, h6, h8⟩ := h
  exact ⟨h1, h2, h3, va_K.moved (u := U) (U := U.calling g mk a) (Vm.Alike.refl U.vm) h4, mX.to (u := U) (U := U.calling g mk a) h5 (Vm.Alike.refl U.vm) (fun _ _ _ => rfl) (fun _ h => h), fun q hq => by obtain ⟨sa, h7⟩ := h6 q hq; exact ⟨sa, vk_R.same (u := U) (U := U.calling g mk a) rfl h7⟩, h8.same (u := U) (U := U.calling g mk a) rfl⟩
theorem mPc.at {av : List Value} (hm : mS D cl A s.heap ad G H locs) (hA : ∀ q, s.heap.size ≤ q → A q) (hC : mC D cl tys tx A s s.heap) : ∀ U : State, U.heap = H → s.WarmedH U.vm → mPc av D cl tys tx ad G H.size av.toArray U := by
  intro U hU hW
  refine ⟨rfl, by rw [hU], by rw [hU]; exact hm.1, ?_⟩
  rw [hU]
  exact hC.to hW hm.2.2.2.1 (hm.free hA)
variable {y : MethodName} {bytes : ByteArray} {maxL nL n index : Nat} {ret : Option FieldType} {ws : List Cond} {rm : Room} {Qc : Array Value → State → Outcome → State → Prop} {XC : String → State → State → Prop} {free : Addr → Prop} {Ts : List Cond} {own C : String} {As : List Value}
theorem m_runV (S : CallFix p m c cc nL s args Ts own) (hM : Met l y ws rm (mPc ((.ref b :: As)) D cl tys tx ad G H.size) Qc mc ms free) (cw : CallW R s args own C index y bytes maxL ret ws rm mc ms n) (hm : mS D cl A s.heap ad G H locs) (hA : ∀ q, s.heap.size ≤ q → A q) (hC : mC D cl tys tx A s s.heap) (r : Nat) (eb : b = ad r) {ci : Nat} {fs : List Value} {q : vw_C} (he : G r = some (.inr (ci, fs))) (hc : cl[ci]? = some q) (hq : q.1 = C) (hn : As.length = n) (hsize : ls.size = nL) (hstack : st0 = As.reverse ++ .ref b :: rest) (hW : (rest.map fun v => v.category).sum ≤ 8) (hdg : decode cc pc = .ok (.invokevirtual index, 3)) (hf : cells + mc ≤ R.cells ∧ slots + ms ≤ R.slots) : va_Run p l e R s m args below meth c H locs cells slots mc ms (F0 m pc ls st0) rest (Qc (Value.ref b :: As).toArray) free := by
  subst eb; subst hq
  exact va_runV S hM cw ⟨mPc.blind, va_recv hC.1 (hm.one he) hc (q0 := 0) rfl, mPc.at hm hA hC⟩ rfl hn hsize hstack (lv_room hW) hdg hf
theorem m_runS (S : CallFix p m c cc nL s args Ts own) (hM : Met l y ws rm (mPc (As) D cl tys tx ad G H.size) Qc mc ms free) (cw : CallB R s args own index y bytes maxL ret ws rm mc ms n ∧ (Cond.static y).before args s = true) (hm : mS D cl A s.heap ad G H locs) (hA : ∀ q, s.heap.size ≤ q → A q) (hC : mC D cl tys tx A s s.heap) (hn : As.length = n) (hsize : ls.size = nL) (hstack : st0 = As.reverse ++ rest) (hW : (rest.map fun v => v.category).sum ≤ 8) (hdg : decode cc pc = .ok (.invokestatic index, 3)) (hf : cells + mc ≤ R.cells ∧ slots + ms ≤ R.slots) : va_Run p l e R s m args below meth c H locs cells slots mc ms (F0 m pc ls st0) rest (Qc As.toArray) free := by
  exact va_runS S hM cw ⟨mPc.blind, mPc.at hm hA hC⟩ rfl hn hsize hstack (lv_room hW) hdg hf
theorem m_runI (S : CallFix p m c cc nL s args Ts own) (hM : Met l y ws rm (mPc ((.ref b :: As)) D cl tys tx ad G H.size) Qc mc ms free) (cw : CallB R s args own index y bytes maxL none ws rm mc ms n ∧ y.name = "<init>" ∧ (Cond.instanceMethod y).before args s = true) (hm : mS D cl A s.heap ad G H locs) (hA : ∀ q, s.heap.size ≤ q → A q) (hC : mC D cl tys tx A s s.heap) (hn : As.length = n) (hsize : ls.size = nL) (hstack : st0 = As.reverse ++ .ref b :: rest) (hW : (rest.map fun v => v.category).sum ≤ 8) (hdg : decode cc pc = .ok (.invokespecial index, 3)) (hf : cells + mc ≤ R.cells ∧ slots + ms ≤ R.slots) : va_Run p l e R s m args below meth c H locs cells slots mc ms (F0 m pc ls st0) rest (Qc (Value.ref b :: As).toArray) free := by
  exact va_runI S hM cw ⟨mPc.blind, mPc.at hm hA hC⟩ rfl hn hsize hstack (lv_room hW) hdg hf
theorem x_runV (S : CallFix p m c cc nL s args Ts own) (hM : vx_Met l y ws rm (mPc ((.ref b :: As)) D cl tys tx ad G H.size) Qc XC mc ms free) (cw : CallW R s args own C index y bytes maxL ret ws rm mc ms n) (hm : mS D cl A s.heap ad G H locs) (hA : ∀ q, s.heap.size ≤ q → A q) (hC : mC D cl tys tx A s s.heap) (r : Nat) (eb : b = ad r) {ci : Nat} {fs : List Value} {q : vw_C} (he : G r = some (.inr (ci, fs))) (hc : cl[ci]? = some q) (hq : q.1 = C) (hn : As.length = n) (hsize : ls.size = nL) (hstack : st0 = As.reverse ++ .ref b :: rest) (hW : (rest.map fun v => v.category).sum ≤ 8) (hdg : decode cc pc = .ok (.invokevirtual index, 3)) (hf : cells + mc ≤ R.cells ∧ slots + ms ≤ R.slots) : vx_Run p l e R s m args below meth c H locs cells slots mc ms (F0 m pc ls st0) rest (Qc (Value.ref b :: As).toArray) XC free := by
  subst eb; subst hq
  exact vx_runV S hM cw ⟨mPc.blind, va_recv hC.1 (hm.one he) hc (q0 := 0) rfl, mPc.at hm hA hC⟩ rfl hn hsize hstack (lv_room hW) hdg hf
theorem x_runS (S : CallFix p m c cc nL s args Ts own) (hM : vx_Met l y ws rm (mPc (As) D cl tys tx ad G H.size) Qc XC mc ms free) (cw : CallB R s args own index y bytes maxL ret ws rm mc ms n ∧ (Cond.static y).before args s = true) (hm : mS D cl A s.heap ad G H locs) (hA : ∀ q, s.heap.size ≤ q → A q) (hC : mC D cl tys tx A s s.heap) (hn : As.length = n) (hsize : ls.size = nL) (hstack : st0 = As.reverse ++ rest) (hW : (rest.map fun v => v.category).sum ≤ 8) (hdg : decode cc pc = .ok (.invokestatic index, 3)) (hf : cells + mc ≤ R.cells ∧ slots + ms ≤ R.slots) : vx_Run p l e R s m args below meth c H locs cells slots mc ms (F0 m pc ls st0) rest (Qc As.toArray) XC free := by
  exact vx_runS S hM cw ⟨mPc.blind, mPc.at hm hA hC⟩ rfl hn hsize hstack (lv_room hW) hdg hf
theorem m_runSW {hh : List (Nat × Nat × Nat × Nat)} (S : CallFix p m c cc nL s args Ts own) (hM : Met l y ws rm (mPc (As) D cl tys tx ad G H.size) Qc mc ms free) (cw : vx_CSW R s args own index y bytes maxL ret hh ws rm mc ms n) (hm : mS D cl A s.heap ad G H locs) (hA : ∀ q, s.heap.size ≤ q → A q) (hC : mC D cl tys tx A s s.heap) (hn : As.length = n) (hsize : ls.size = nL) (hstack : st0 = As.reverse ++ rest) (hW : (rest.map fun v => v.category).sum ≤ 8) (hdg : decode cc pc = .ok (.invokestatic index, 3)) (hf : cells + mc ≤ R.cells ∧ slots + ms ≤ R.slots) : va_Run p l e R s m args below meth c H locs cells slots mc ms (F0 m pc ls st0) rest (Qc As.toArray) free := by
  exact vx_runSW S hM cw ⟨mPc.blind, mPc.at hm hA hC⟩ rfl hn hsize hstack (lv_room hW) hdg hf
theorem m_calli {post : Int32 → mU → Prop} (hr : va_Run p l e R s m args below meth c H locs cells slots mc ms (F0 m pc ls st0) rest (mQi post D cl ad G H.size a) (mA ad G H.size)) (hm : mS D cl A s.heap ad G H locs) (hA : ∀ q, s.heap.size ≤ q → A q)
    (kk : ∀ (r : Int32) (ad1 : Nat → Nat) (G1 : mG) (H1 : Heap) (locs1 : List Loc), post r (ad1, G1) → mS D cl A s.heap ad1 G1 H1 locs1 → W p l e R s m args below meth c H1 locs1 (cells + mc) (slots + ms) Q (F0 m (pc + 3) ls (.int r :: rest))) : W p l e R s m args below meth c H locs cells slots Q (F0 m pc ls st0) := by
  refine va_calli hr hm.2.2 (fun q _ h => hm.free hA q h) (hm.free hA) (fun r u t H1 locs1 ht hvm hp hB hz hk hS => ?_)
  obtain ⟨ad1, G1⟩ := u
  subst ht
  exact kk r ad1 G1 _ _ hp ⟨hB.1, fun r e h => hm.free hA _ (hB.2 r e h), hS⟩
theorem x_calli {post : Int32 → mU → Prop} {px : String → mU → Prop} (hr : vx_Run p l e R s m args below meth c H locs cells slots mc ms (F0 m pc ls st0) rest (mQi post D cl ad G H.size a) (mXC px D cl ad G H.size) (mA ad G H.size)) (hm : mS D cl A s.heap ad G H locs) (hA : ∀ q, s.heap.size ≤ q → A q)
    (kx : ∀ (E : String) (ce : Cell) (q9 : Addr) (ad1 : Nat → Nat) (G1 : mG) (H1 : Heap) (locs1 : List Loc), px E (ad1, G1) → mS D cl A s.heap ad1 G1 H1 locs1 → H1[q9]? = some ce → ce.vm = .none → s.vm.findClass E = some ce.cls → vx_W p l e R s m args below meth c H1 locs1 (cells + mc) (slots + ms) Q (F0 m pc ls rest) q9)
    (kk : ∀ (r : Int32) (ad1 : Nat → Nat) (G1 : mG) (H1 : Heap) (locs1 : List Loc), post r (ad1, G1) → mS D cl A s.heap ad1 G1 H1 locs1 → W p l e R s m args below meth c H1 locs1 (cells + mc) (slots + ms) Q (F0 m (pc + 3) ls (.int r :: rest))) : W p l e R s m args below meth c H locs cells slots Q (F0 m pc ls st0) := by
  refine vx_calli hr hm.2.2 (fun q _ h => hm.free hA q h) (hm.free hA) (fun q _ h => hm.free hA q h) (fun E ce q9 u t H1 locs1 ht hvm hp hB hz hk hS h7 h8 h9 => ?_) (fun r u t H1 locs1 ht hvm hp hB hz hk hS => ?_)
  · obtain ⟨ad1, G1⟩ := u
    subst ht
    exact kx E ce q9 ad1 G1 _ _ hB.1 ⟨hB.2.1, fun r e h => hm.free hA _ (hB.2.2 r e h), hS⟩ h7 h8 h9
  · obtain ⟨ad1, G1⟩ := u
    subst ht
    exact kk r ad1 G1 _ _ hp ⟨hB.1, fun r e h => hm.free hA _ (hB.2 r e h), hS⟩
theorem m_calll {post : Int64 → mU → Prop} (hr : va_Run p l e R s m args below meth c H locs cells slots mc ms (F0 m pc ls st0) rest (mQl post D cl ad G H.size a) (mA ad G H.size)) (hm : mS D cl A s.heap ad G H locs) (hA : ∀ q, s.heap.size ≤ q → A q)
    (kk : ∀ (r : Int64) (ad1 : Nat → Nat) (G1 : mG) (H1 : Heap) (locs1 : List Loc), post r (ad1, G1) → mS D cl A s.heap ad1 G1 H1 locs1 → W p l e R s m args below meth c H1 locs1 (cells + mc) (slots + ms) Q (F0 m (pc + 3) ls (.long r :: rest))) : W p l e R s m args below meth c H locs cells slots Q (F0 m pc ls st0) := by
  refine va_calll hr hm.2.2 (fun q _ h => hm.free hA q h) (hm.free hA) (fun r u t H1 locs1 ht hvm hp hB hz hk hS => ?_)
  obtain ⟨ad1, G1⟩ := u
  subst ht
  exact kk r ad1 G1 _ _ hp ⟨hB.1, fun r e h => hm.free hA _ (hB.2 r e h), hS⟩
theorem x_calll {post : Int64 → mU → Prop} {px : String → mU → Prop} (hr : vx_Run p l e R s m args below meth c H locs cells slots mc ms (F0 m pc ls st0) rest (mQl post D cl ad G H.size a) (mXC px D cl ad G H.size) (mA ad G H.size)) (hm : mS D cl A s.heap ad G H locs) (hA : ∀ q, s.heap.size ≤ q → A q)
    (kx : ∀ (E : String) (ce : Cell) (q9 : Addr) (ad1 : Nat → Nat) (G1 : mG) (H1 : Heap) (locs1 : List Loc), px E (ad1, G1) → mS D cl A s.heap ad1 G1 H1 locs1 → H1[q9]? = some ce → ce.vm = .none → s.vm.findClass E = some ce.cls → vx_W p l e R s m args below meth c H1 locs1 (cells + mc) (slots + ms) Q (F0 m pc ls rest) q9)
    (kk : ∀ (r : Int64) (ad1 : Nat → Nat) (G1 : mG) (H1 : Heap) (locs1 : List Loc), post r (ad1, G1) → mS D cl A s.heap ad1 G1 H1 locs1 → W p l e R s m args below meth c H1 locs1 (cells + mc) (slots + ms) Q (F0 m (pc + 3) ls (.long r :: rest))) : W p l e R s m args below meth c H locs cells slots Q (F0 m pc ls st0) := by
  refine vx_calll hr hm.2.2 (fun q _ h => hm.free hA q h) (hm.free hA) (fun q _ h => hm.free hA q h) (fun E ce q9 u t H1 locs1 ht hvm hp hB hz hk hS h7 h8 h9 => ?_) (fun r u t H1 locs1 ht hvm hp hB hz hk hS => ?_)
  · obtain ⟨ad1, G1⟩ := u
    subst ht
    exact kx E ce q9 ad1 G1 _ _ hB.1 ⟨hB.2.1, fun r e h => hm.free hA _ (hB.2.2 r e h), hS⟩ h7 h8 h9
  · obtain ⟨ad1, G1⟩ := u
    subst ht
    exact kk r ad1 G1 _ _ hp ⟨hB.1, fun r e h => hm.free hA _ (hB.2 r e h), hS⟩
theorem m_callq {post : Option Nat → mU → Prop} (hr : va_Run p l e R s m args below meth c H locs cells slots mc ms (F0 m pc ls st0) rest (mQq post D cl ad G H.size a) (mA ad G H.size)) (hm : mS D cl A s.heap ad G H locs) (hA : ∀ q, s.heap.size ≤ q → A q)
    (kk : ∀ (r : Option Nat) (ad1 : Nat → Nat) (G1 : mG) (H1 : Heap) (locs1 : List Loc), post r (ad1, G1) → mS D cl A s.heap ad1 G1 H1 locs1 → W p l e R s m args below meth c H1 locs1 (cells + mc) (slots + ms) Q (F0 m (pc + 3) ls (va_rf r :: rest))) : W p l e R s m args below meth c H locs cells slots Q (F0 m pc ls st0) := by
  refine va_callq hr hm.2.2 (fun q _ h => hm.free hA q h) (hm.free hA) (fun r u t H1 locs1 ht hvm hp hB hz hk hS => ?_)
  obtain ⟨ad1, G1⟩ := u
  subst ht
  exact kk r ad1 G1 _ _ hp ⟨hB.1, fun r e h => hm.free hA _ (hB.2 r e h), hS⟩
theorem x_callq {post : Option Nat → mU → Prop} {px : String → mU → Prop} (hr : vx_Run p l e R s m args below meth c H locs cells slots mc ms (F0 m pc ls st0) rest (mQq post D cl ad G H.size a) (mXC px D cl ad G H.size) (mA ad G H.size)) (hm : mS D cl A s.heap ad G H locs) (hA : ∀ q, s.heap.size ≤ q → A q)
    (kx : ∀ (E : String) (ce : Cell) (q9 : Addr) (ad1 : Nat → Nat) (G1 : mG) (H1 : Heap) (locs1 : List Loc), px E (ad1, G1) → mS D cl A s.heap ad1 G1 H1 locs1 → H1[q9]? = some ce → ce.vm = .none → s.vm.findClass E = some ce.cls → vx_W p l e R s m args below meth c H1 locs1 (cells + mc) (slots + ms) Q (F0 m pc ls rest) q9)
    (kk : ∀ (r : Option Nat) (ad1 : Nat → Nat) (G1 : mG) (H1 : Heap) (locs1 : List Loc), post r (ad1, G1) → mS D cl A s.heap ad1 G1 H1 locs1 → W p l e R s m args below meth c H1 locs1 (cells + mc) (slots + ms) Q (F0 m (pc + 3) ls (va_rf r :: rest))) : W p l e R s m args below meth c H locs cells slots Q (F0 m pc ls st0) := by
  intro T hT X
  rcases hr T hT X with ⟨v, st₀, t, T', L, h0, X', hL, e1, e2, ⟨⟨r, u, hv, hp, hB⟩, hF⟩, st⟩ | ⟨q, st₀, t, T', L, E, ce, h0, X', hL, e1, e2, ⟨u, hp, hB, hF⟩, hce, hcv, hcl, st⟩
  · cases hv
    obtain ⟨k1, k2, k3⟩ := vx_keep h0 e1 hm.2.2 (fun q _ h => hm.free hA q h) (hm.free hA) hL hF
    obtain ⟨ad1, G1⟩ := u
    have hB' : mw D cl ad1 G1 T'.heap := by rw [e1]; exact hB.1
    obtain ⟨t2, a1, b1⟩ := kk r ad1 G1 T'.heap (locs ++ L) hp ⟨hB', fun r e h => hm.free hA _ (hB.2 r e h), k3⟩ T' rfl X'
    exact ⟨t2, st t2 a1, b1⟩
  · obtain ⟨k1, k2, k3⟩ := vx_keep h0 e1 hm.2.2 (fun q _ h => hm.free hA q h) (hm.free hA) hL hF
    obtain ⟨ad1, G1⟩ := u
    have hB' : mw D cl ad1 G1 T'.heap := by rw [e1]; exact hB.2.1
    obtain ⟨t2, a1, b1⟩ := kx E ce q ad1 G1 T'.heap (locs ++ L) hB.1 ⟨hB', fun r e h => hm.free hA _ (hB.2.2 r e h), k3⟩ (by rw [e1]; exact hce) hcv hcl T' rfl X'
    exact ⟨t2, st.trans a1, b1⟩
theorem m_callv {post : mU → Prop} (hr : va_Run p l e R s m args below meth c H locs cells slots mc ms (F0 m pc ls st0) rest (mQv post D cl ad G H.size a) (mA ad G H.size)) (hm : mS D cl A s.heap ad G H locs) (hA : ∀ q, s.heap.size ≤ q → A q)
    (kk : ∀ (ad1 : Nat → Nat) (G1 : mG) (H1 : Heap) (locs1 : List Loc), post (ad1, G1) → mS D cl A s.heap ad1 G1 H1 locs1 → W p l e R s m args below meth c H1 locs1 (cells + mc) (slots + ms) Q (F0 m (pc + 3) ls (rest))) : W p l e R s m args below meth c H locs cells slots Q (F0 m pc ls st0) := by
  refine va_callv hr hm.2.2 (fun q _ h => hm.free hA q h) (hm.free hA) (fun u t H1 locs1 ht hvm hp hB hz hk hS => ?_)
  obtain ⟨ad1, G1⟩ := u
  subst ht
  exact kk ad1 G1 _ _ hp ⟨hB.1, fun r e h => hm.free hA _ (hB.2 r e h), hS⟩
theorem x_callv {post : mU → Prop} {px : String → mU → Prop} (hr : vx_Run p l e R s m args below meth c H locs cells slots mc ms (F0 m pc ls st0) rest (mQv post D cl ad G H.size a) (mXC px D cl ad G H.size) (mA ad G H.size)) (hm : mS D cl A s.heap ad G H locs) (hA : ∀ q, s.heap.size ≤ q → A q)
    (kx : ∀ (E : String) (ce : Cell) (q9 : Addr) (ad1 : Nat → Nat) (G1 : mG) (H1 : Heap) (locs1 : List Loc), px E (ad1, G1) → mS D cl A s.heap ad1 G1 H1 locs1 → H1[q9]? = some ce → ce.vm = .none → s.vm.findClass E = some ce.cls → vx_W p l e R s m args below meth c H1 locs1 (cells + mc) (slots + ms) Q (F0 m pc ls rest) q9)
    (kk : ∀ (ad1 : Nat → Nat) (G1 : mG) (H1 : Heap) (locs1 : List Loc), post (ad1, G1) → mS D cl A s.heap ad1 G1 H1 locs1 → W p l e R s m args below meth c H1 locs1 (cells + mc) (slots + ms) Q (F0 m (pc + 3) ls (rest))) : W p l e R s m args below meth c H locs cells slots Q (F0 m pc ls st0) := by
  refine vx_callv hr hm.2.2 (fun q _ h => hm.free hA q h) (hm.free hA) (fun q _ h => hm.free hA q h) (fun E ce q9 u t H1 locs1 ht hvm hp hB hz hk hS h7 h8 h9 => ?_) (fun u t H1 locs1 ht hvm hp hB hz hk hS => ?_)
  · obtain ⟨ad1, G1⟩ := u
    subst ht
    exact kx E ce q9 ad1 G1 _ _ hB.1 ⟨hB.2.1, fun r e h => hm.free hA _ (hB.2.2 r e h), hS⟩ h7 h8 h9
  · obtain ⟨ad1, G1⟩ := u
    subst ht
    exact kk ad1 G1 _ _ hp ⟨hB.1, fun r e h => hm.free hA _ (hB.2 r e h), hS⟩
theorem m_iret {post : Int32 → mU → Prop} {v : Int32} (hexec : p.tables.exec = Jvm.exec) (hb : c.code = cc) (hr : meth.sig.returnType = some .int) (hm : mS D cl (mA ad0 G0 s.heap.size) s.heap ad G H locs) (hp : post v (ad, G)) (hdg : decode cc pc = .ok (.ireturn, 1)) (hlocks : meth.locks = false) : W p l e R s m args below meth c H locs cells slots (MQ below (mQi post D cl ad0 G0 s.heap.size) args s cells slots (mA ad0 G0 s.heap.size)) (F0 m pc ls [.int v]) :=
  W.iret hexec hb hr (fun t ht hW => ⟨⟨v, (ad, G), rfl, hp, by rw [ht]; exact hm.1, hm.2.1⟩, hm.2.2.F ht⟩) hm.2.2.2.2 hdg hlocks
theorem m_zret {post : Int32 → mU → Prop} {v : Int32} (hexec : p.tables.exec = Jvm.exec) (hb : c.code = cc) (hr : meth.sig.returnType = some .boolean) (hn : narrow .boolean (.int v) = .int v) (hm : mS D cl (mA ad0 G0 s.heap.size) s.heap ad G H locs) (hp : post v (ad, G)) (hdg : decode cc pc = .ok (.ireturn, 1)) (hlocks : meth.locks = false) : W p l e R s m args below meth c H locs cells slots (MQ below (mQi post D cl ad0 G0 s.heap.size) args s cells slots (mA ad0 G0 s.heap.size)) (F0 m pc ls [.int v]) :=
  W.zret hexec hb hr hn (fun t ht hW => ⟨⟨v, (ad, G), rfl, hp, by rw [ht]; exact hm.1, hm.2.1⟩, hm.2.2.F ht⟩) hm.2.2.2.2 hdg hlocks
theorem m_lret {post : Int64 → mU → Prop} {v : Int64} (hexec : p.tables.exec = Jvm.exec) (hb : c.code = cc) (hr : meth.sig.returnType = some .long) (hm : mS D cl (mA ad0 G0 s.heap.size) s.heap ad G H locs) (hp : post v (ad, G)) (hdg : decode cc pc = .ok (.lreturn, 1)) (hlocks : meth.locks = false) : W p l e R s m args below meth c H locs cells slots (MQ below (mQl post D cl ad0 G0 s.heap.size) args s cells slots (mA ad0 G0 s.heap.size)) (F0 m pc ls [.long v]) :=
  W.lret hexec hb hr (fun t ht hW => ⟨⟨v, (ad, G), rfl, hp, by rw [ht]; exact hm.1, hm.2.1⟩, hm.2.2.F ht⟩) hm.2.2.2.2 hdg hlocks
theorem m_vret {post : mU → Prop} (hexec : p.tables.exec = Jvm.exec) (hb : c.code = cc) (hr : meth.sig.returnType = none) (hm : mS D cl (mA ad0 G0 s.heap.size) s.heap ad G H locs) (hp : post (ad, G)) (hdg : decode cc pc = .ok (.return_, 1)) (hlocks : meth.locks = false) : W p l e R s m args below meth c H locs cells slots (MQ below (mQv post D cl ad0 G0 s.heap.size) args s cells slots (mA ad0 G0 s.heap.size)) (F0 m pc ls []) :=
  W.vret hexec hb hr (fun t ht hW => ⟨⟨(ad, G), rfl, hp, by rw [ht]; exact hm.1, hm.2.1⟩, hm.2.2.F ht⟩) hm.2.2.2.2 hdg hlocks
theorem m_aret {post : Option Nat → mU → Prop} {v : Value} {r : Option Nat} {C : String} (hexec : p.tables.exec = Jvm.exec) (hb : c.code = cc) (hr : meth.sig.returnType = some (.object C)) (hv : v = va_rf r) (hm : mS D cl (mA ad0 G0 s.heap.size) s.heap ad G H locs) (hp : post r (ad, G)) (hdg : decode cc pc = .ok (.areturn, 1)) (hlocks : meth.locks = false) : W p l e R s m args below meth c H locs cells slots (MQ below (mQq post D cl ad0 G0 s.heap.size) args s cells slots (mA ad0 G0 s.heap.size)) (F0 m pc ls [v]) := by
  subst hv
  exact W.aret hexec hb hr (Or.inl ⟨C, rfl⟩) (va_rf_or r) (fun t ht hW => ⟨⟨r, (ad, G), rfl, hp, by rw [ht]; exact hm.1, hm.2.1⟩, hm.2.2.F ht⟩) hm.2.2.2.2 hdg hlocks
theorem m_throwS {px : String → mU → Prop} (hexec : p.tables.exec = Jvm.exec) (hb : c.code = cc) (hl : l.stackTraces = false) {cls text : String} {names : List String} {ik is ic : Nat}
    (hown : s.vm.findClass own = some m.cls) (hcls : Bundle.fit cls = true) (hnames : ∀ n ∈ names, Bundle.fit n = true)
    (hk : (Cond.classLink own ik cls).before args s = true) (hini : (Cond.initialized cls).before args s = true) (htx : (own, is, text) ∈ tx) (hC : mC D cl tys tx (mA ad0 G0 s.heap.size) s s.heap) (hat : ∀ w ∈ vx_atS own ic cls names, w.before args s = true)
    (hgood : ∀ w ∈ Cond.classLink own ik cls :: Cond.initialized cls :: vx_atS own ic cls names, vx_ot w = true) (hm : mS D cl (mA ad0 G0 s.heap.size) s.heap ad G H locs) (hsize : ls.size = c.maxLocals)
    (d0 : decode cc pc = .ok (.new ik, 3)) (d3 : decode cc (pc + 3) = .ok (.dup, 1)) (d4 : decode cc (pc + 4) = .ok (.ldc is, 2)) (d6 : decode cc (pc + 6) = .ok (.invokespecial ic, 3)) (d9 : decode cc (pc + 9) = .ok (.athrow, 1))
    (hout : ∀ x ∈ c.exceptionTable.toList, False)
    (hRframes : names.length + 3 < R.frames) (hRlocals : (rest.map fun v => v.category).sum + (13 * (names.length + 1) + 43) ≤ R.locals) (hRcells : cells + 1 ≤ R.cells) (hRslots : slots + 6 ≤ R.slots) (hlocks : meth.locks = false)
    (hp : px cls (ad, G)) (hc : cells + 1 ≤ mc) (hs : slots + 6 ≤ ms) :
    W p l e R s m args below meth c H locs cells slots (vx_MQ below Qc (mXC px D cl ad0 G0 s.heap.size) args s mc ms (mA ad0 G0 s.heap.size)) (F0 m pc ls rest) := by
  obtain ⟨sa, hstr⟩ := hC.2.2.1 _ htx
  exact vx_throwS hexec hb hl hown hcls hnames hk hini hstr hat hgood hC.2.1.1 hC.2.1.2 hm.2.2 hsize d0 d3 d4 d6 d9 (fun x hx => (hout x hx).elim) hRframes hRlocals hRcells hRslots hlocks
    (fun t hvm hz hq => ⟨(ad, G), trivial, ⟨hp, ⟨fun r e h => (hm.1.1 r e h).kept (hq _ (hm.1.1 r e h).lt), hm.1.2⟩, hm.2.1⟩, ⟨Nat.le_trans hm.2.2.1 hz, fun q h1 h2 => (hq q (Nat.lt_of_lt_of_le h1 hm.2.2.1)).trans (hm.2.2.2.1 q h1 h2)⟩⟩) hm.2.2.2.2 hc hs
theorem m_throwSW {px : String → mU → Prop} (hexec : p.tables.exec = Jvm.exec) (hb : c.code = cc) (hl : l.stackTraces = false) {cls text : String} {names : List String} {ik is ic : Nat}
    (hown : s.vm.findClass own = some m.cls) (hcls : Bundle.fit cls = true) (hnames : ∀ n ∈ names, Bundle.fit n = true)
    (hk : (Cond.classLink own ik cls).before args s = true) (hini : (Cond.initialized cls).before args s = true) (htx : (own, is, text) ∈ tx) (hC : mC D cl tys tx (mA ad0 G0 s.heap.size) s s.heap) (hat : ∀ w ∈ vx_atS own ic cls names, w.before args s = true)
    (hgood : ∀ w ∈ Cond.classLink own ik cls :: Cond.initialized cls :: vx_atS own ic cls names, vx_ot w = true) (hm : mS D cl (mA ad0 G0 s.heap.size) s.heap ad G H locs) (hsize : ls.size = c.maxLocals)
    (d0 : decode cc pc = .ok (.new ik, 3)) (d3 : decode cc (pc + 3) = .ok (.dup, 1)) (d4 : decode cc (pc + 4) = .ok (.ldc_w is, 3)) (d6 : decode cc (pc + 7) = .ok (.invokespecial ic, 3)) (d9 : decode cc (pc + 10) = .ok (.athrow, 1))
    (hout : ∀ x ∈ c.exceptionTable.toList, False)
    (hRframes : names.length + 3 < R.frames) (hRlocals : (rest.map fun v => v.category).sum + (13 * (names.length + 1) + 43) ≤ R.locals) (hRcells : cells + 1 ≤ R.cells) (hRslots : slots + 6 ≤ R.slots) (hlocks : meth.locks = false)
    (hp : px cls (ad, G)) (hc : cells + 1 ≤ mc) (hs : slots + 6 ≤ ms) :
    W p l e R s m args below meth c H locs cells slots (vx_MQ below Qc (mXC px D cl ad0 G0 s.heap.size) args s mc ms (mA ad0 G0 s.heap.size)) (F0 m pc ls rest) := by
  obtain ⟨sa, hstr⟩ := hC.2.2.1 _ htx
  exact vx_throwSW hexec hb hl hown hcls hnames hk hini hstr hat hgood hC.2.1.1 hC.2.1.2 hm.2.2 hsize d0 d3 d4 d6 d9 (fun x hx => (hout x hx).elim) hRframes hRlocals hRcells hRslots hlocks
    (fun t hvm hz hq => ⟨(ad, G), trivial, ⟨hp, ⟨fun r e h => (hm.1.1 r e h).kept (hq _ (hm.1.1 r e h).lt), hm.1.2⟩, hm.2.1⟩, ⟨Nat.le_trans hm.2.2.1 hz, fun q h1 h2 => (hq q (Nat.lt_of_lt_of_le h1 hm.2.2.1)).trans (hm.2.2.2.1 q h1 h2)⟩⟩) hm.2.2.2.2 hc hs
theorem m_out {px : String → mU → Prop} {E : String} {ce : Cell} {q : Addr} (hout : ∀ x ∈ c.exceptionTable.toList, False) (hlocks : meth.locks = false) (hm : mS D cl (mA ad0 G0 s.heap.size) s.heap ad G H locs) (hcell : H[q]? = some ce) (hv : ce.vm = .none) (hcl : s.vm.findClass E = some ce.cls) (hp : px E (ad, G)) (hc : cells ≤ mc) (hs : slots ≤ ms) :
    vx_W p l e R s m args below meth c H locs cells slots (vx_MQ below Qc (mXC px D cl ad0 G0 s.heap.size) args s mc ms (mA ad0 G0 s.heap.size)) (F0 m pc ls rest) q :=
  vx_out (fun x hx => (hout x hx).elim) hlocks hcell hv hcl (fun t ht hvm => ⟨(ad, G), trivial, ⟨hp, by rw [ht]; exact hm.1, hm.2.1⟩, hm.2.2.F ht⟩) hm.2.2.2.2 hc hs
theorem m_roi {ps : Int32 → Prop} (hr : va_Run p l e R s m args below meth c H locs cells slots mc ms (F0 m pc ls st0) rest (mQi (fun r u => ps r ∧ u = (ad, G)) D cl ad G H.size a) (mA ad G H.size)) (hm : mS D cl A s.heap ad G H locs) (hA : ∀ q, s.heap.size ≤ q → A q)
    (kk : ∀ (r : Int32) (H1 : Heap) (locs1 : List Loc), ps r → mS D cl A s.heap ad G H1 locs1 → W p l e R s m args below meth c H1 locs1 (cells + mc) (slots + ms) Q (F0 m (pc + 3) ls (.int r :: rest))) : W p l e R s m args below meth c H locs cells slots Q (F0 m pc ls st0) := by
  refine m_calli hr hm hA (fun r ad1 G1 H1 locs1 hp hm1 => ?_)
  obtain ⟨h1, h2⟩ := hp
  obtain ⟨e1, e2⟩ := Prod.mk.inj h2
  rw [e1, e2] at hm1
  exact kk r H1 locs1 h1 hm1
theorem x_roi {ps : Int32 → Prop} {px : String → Prop} (hr : vx_Run p l e R s m args below meth c H locs cells slots mc ms (F0 m pc ls st0) rest (mQi (fun r u => ps r ∧ u = (ad, G)) D cl ad G H.size a) (mXC (fun E u => px E ∧ u = (ad, G)) D cl ad G H.size) (mA ad G H.size)) (hm : mS D cl A s.heap ad G H locs) (hA : ∀ q, s.heap.size ≤ q → A q)
    (kx : ∀ (E : String) (ce : Cell) (q9 : Addr) (H1 : Heap) (locs1 : List Loc), px E → mS D cl A s.heap ad G H1 locs1 → H1[q9]? = some ce → ce.vm = .none → s.vm.findClass E = some ce.cls → vx_W p l e R s m args below meth c H1 locs1 (cells + mc) (slots + ms) Q (F0 m pc ls rest) q9)
    (kk : ∀ (r : Int32) (H1 : Heap) (locs1 : List Loc), ps r → mS D cl A s.heap ad G H1 locs1 → W p l e R s m args below meth c H1 locs1 (cells + mc) (slots + ms) Q (F0 m (pc + 3) ls (.int r :: rest))) : W p l e R s m args below meth c H locs cells slots Q (F0 m pc ls st0) := by
  refine x_calli hr hm hA (fun E ce q9 ad1 G1 H1 locs1 hp hm1 h7 h8 h9 => ?_) (fun r ad1 G1 H1 locs1 hp hm1 => ?_)
  · obtain ⟨h1, h2⟩ := hp
    obtain ⟨e1, e2⟩ := Prod.mk.inj h2
    rw [e1, e2] at hm1
    exact kx E ce q9 H1 locs1 h1 hm1 h7 h8 h9
  · obtain ⟨h1, h2⟩ := hp
    obtain ⟨e1, e2⟩ := Prod.mk.inj h2
    rw [e1, e2] at hm1
    exact kk r H1 locs1 h1 hm1
theorem m_rol {ps : Int64 → Prop} (hr : va_Run p l e R s m args below meth c H locs cells slots mc ms (F0 m pc ls st0) rest (mQl (fun r u => ps r ∧ u = (ad, G)) D cl ad G H.size a) (mA ad G H.size)) (hm : mS D cl A s.heap ad G H locs) (hA : ∀ q, s.heap.size ≤ q → A q)
    (kk : ∀ (r : Int64) (H1 : Heap) (locs1 : List Loc), ps r → mS D cl A s.heap ad G H1 locs1 → W p l e R s m args below meth c H1 locs1 (cells + mc) (slots + ms) Q (F0 m (pc + 3) ls (.long r :: rest))) : W p l e R s m args below meth c H locs cells slots Q (F0 m pc ls st0) := by
  refine m_calll hr hm hA (fun r ad1 G1 H1 locs1 hp hm1 => ?_)
  obtain ⟨h1, h2⟩ := hp
  obtain ⟨e1, e2⟩ := Prod.mk.inj h2
  rw [e1, e2] at hm1
  exact kk r H1 locs1 h1 hm1
theorem x_rol {ps : Int64 → Prop} {px : String → Prop} (hr : vx_Run p l e R s m args below meth c H locs cells slots mc ms (F0 m pc ls st0) rest (mQl (fun r u => ps r ∧ u = (ad, G)) D cl ad G H.size a) (mXC (fun E u => px E ∧ u = (ad, G)) D cl ad G H.size) (mA ad G H.size)) (hm : mS D cl A s.heap ad G H locs) (hA : ∀ q, s.heap.size ≤ q → A q)
    (kx : ∀ (E : String) (ce : Cell) (q9 : Addr) (H1 : Heap) (locs1 : List Loc), px E → mS D cl A s.heap ad G H1 locs1 → H1[q9]? = some ce → ce.vm = .none → s.vm.findClass E = some ce.cls → vx_W p l e R s m args below meth c H1 locs1 (cells + mc) (slots + ms) Q (F0 m pc ls rest) q9)
    (kk : ∀ (r : Int64) (H1 : Heap) (locs1 : List Loc), ps r → mS D cl A s.heap ad G H1 locs1 → W p l e R s m args below meth c H1 locs1 (cells + mc) (slots + ms) Q (F0 m (pc + 3) ls (.long r :: rest))) : W p l e R s m args below meth c H locs cells slots Q (F0 m pc ls st0) := by
  refine x_calll hr hm hA (fun E ce q9 ad1 G1 H1 locs1 hp hm1 h7 h8 h9 => ?_) (fun r ad1 G1 H1 locs1 hp hm1 => ?_)
  · obtain ⟨h1, h2⟩ := hp
    obtain ⟨e1, e2⟩ := Prod.mk.inj h2
    rw [e1, e2] at hm1
    exact kx E ce q9 H1 locs1 h1 hm1 h7 h8 h9
  · obtain ⟨h1, h2⟩ := hp
    obtain ⟨e1, e2⟩ := Prod.mk.inj h2
    rw [e1, e2] at hm1
    exact kk r H1 locs1 h1 hm1
theorem m_roq {ps : Option Nat → Prop} (hr : va_Run p l e R s m args below meth c H locs cells slots mc ms (F0 m pc ls st0) rest (mQq (fun r u => ps r ∧ u = (ad, G)) D cl ad G H.size a) (mA ad G H.size)) (hm : mS D cl A s.heap ad G H locs) (hA : ∀ q, s.heap.size ≤ q → A q)
    (kk : ∀ (r : Option Nat) (H1 : Heap) (locs1 : List Loc), ps r → mS D cl A s.heap ad G H1 locs1 → W p l e R s m args below meth c H1 locs1 (cells + mc) (slots + ms) Q (F0 m (pc + 3) ls (va_rf r :: rest))) : W p l e R s m args below meth c H locs cells slots Q (F0 m pc ls st0) := by
  refine m_callq hr hm hA (fun r ad1 G1 H1 locs1 hp hm1 => ?_)
  obtain ⟨h1, h2⟩ := hp
  obtain ⟨e1, e2⟩ := Prod.mk.inj h2
  rw [e1, e2] at hm1
  exact kk r H1 locs1 h1 hm1
theorem x_roq {ps : Option Nat → Prop} {px : String → Prop} (hr : vx_Run p l e R s m args below meth c H locs cells slots mc ms (F0 m pc ls st0) rest (mQq (fun r u => ps r ∧ u = (ad, G)) D cl ad G H.size a) (mXC (fun E u => px E ∧ u = (ad, G)) D cl ad G H.size) (mA ad G H.size)) (hm : mS D cl A s.heap ad G H locs) (hA : ∀ q, s.heap.size ≤ q → A q)
    (kx : ∀ (E : String) (ce : Cell) (q9 : Addr) (H1 : Heap) (locs1 : List Loc), px E → mS D cl A s.heap ad G H1 locs1 → H1[q9]? = some ce → ce.vm = .none → s.vm.findClass E = some ce.cls → vx_W p l e R s m args below meth c H1 locs1 (cells + mc) (slots + ms) Q (F0 m pc ls rest) q9)
    (kk : ∀ (r : Option Nat) (H1 : Heap) (locs1 : List Loc), ps r → mS D cl A s.heap ad G H1 locs1 → W p l e R s m args below meth c H1 locs1 (cells + mc) (slots + ms) Q (F0 m (pc + 3) ls (va_rf r :: rest))) : W p l e R s m args below meth c H locs cells slots Q (F0 m pc ls st0) := by
  refine x_callq hr hm hA (fun E ce q9 ad1 G1 H1 locs1 hp hm1 h7 h8 h9 => ?_) (fun r ad1 G1 H1 locs1 hp hm1 => ?_)
  · obtain ⟨h1, h2⟩ := hp
    obtain ⟨e1, e2⟩ := Prod.mk.inj h2
    rw [e1, e2] at hm1
    exact kx E ce q9 H1 locs1 h1 hm1 h7 h8 h9
  · obtain ⟨h1, h2⟩ := hp
    obtain ⟨e1, e2⟩ := Prod.mk.inj h2
    rw [e1, e2] at hm1
    exact kk r H1 locs1 h1 hm1
/-- a loop: its state x of type τ, a measure n that falls, what its locals and its world hold -/
theorem m_loopH {τ : Type} {head nL : Nat} (I : Nat → τ → Prop) (lv : τ → List (Nat × Value)) (Gx : τ → mG)
    (h0 : ∀ x, ¬ I 0 x) (kk : ∀ (n : Nat) (x : τ) (ls : Array Slot) (H : Heap) (locs : List Loc), I (n + 1) x → lv_has ls nL (lv x) → mS D cl A s.heap ad (Gx x) H locs →
      (∀ (y : τ) (ls' : Array Slot) (H' : Heap) (locs' : List Loc), I n y → lv_has ls' nL (lv y) → mS D cl A s.heap ad (Gx y) H' locs' → W p l e R s m args below meth c H' locs' cells slots Q (F0 m head ls' [])) →
      W p l e R s m args below meth c H locs cells slots Q (F0 m head ls [])) (n : Nat) (x : τ) (hI : I (n + 1) x) (hl : lv_has ls nL (lv x)) (hm : mS D cl A s.heap ad (Gx x) H locs) : W p l e R s m args below meth c H locs cells slots Q (F0 m head ls []) := by
  induction n generalizing x ls H locs with
  | zero => exact kk 0 x ls H locs hI hl hm (fun y ls' H' locs' h1 h2 h3 => absurd h1 (h0 y))
  | succ n ih => exact kk (n + 1) x ls H locs hI hl hm (fun y ls' H' locs' h1 h2 h3 => ih y h1 h2 h3)
end MCALLS
