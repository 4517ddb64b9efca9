/-! worlds by roles: ad r is the address of role r, G r what its cell holds -/
abbrev mG : Type := Nat → Option va_E
abbrev mU : Type := (Nat → Nat) × mG
def mw (D : va_G) (cl : List vw_C) (ad : Nat → Nat) (G : mG) (H : Heap) : Prop :=
  (∀ (r : Nat) (e : va_E), G r = some e → va_at D cl (ad r, e) H) ∧ (∀ (r r' : Nat) (e e' : va_E), G r = some e → G r' = some e' → ad r = ad r' → r = r')
def mA (ad : Nat → Nat) (G : mG) (sz : Nat) : Nat → Prop := fun q => (∃ (r : Nat) (e : va_E), G r = some e ∧ ad r = q) ∨ sz ≤ q
def mS (D : va_G) (cl : List vw_C) (A : Nat → Prop) (H0 : Heap) (ad : Nat → Nat) (G : mG) (H : Heap) (locs : List Loc) : Prop :=
  mw D cl ad G H ∧ (∀ (r : Nat) (e : va_E), G r = some e → A (ad r)) ∧ va_S A H0 H locs
/-- what the machine itself holds for throws: two statics -/
def mX (A : Nat → Prop) (U : State) (H : Heap) : Prop := vx_Zq Bundle.tN "UNASSIGNED_STACK" Bundle.steD A U H ∧ vx_Zq Bundle.tN "SUPPRESSED_SENTINEL" Bundle.listD A U H
/-- the texts: pool places of a holder with their words -/
def mT (tx : List (String × Nat × String)) (U : State) : Prop := ∀ q ∈ tx, ∃ sa : Nat, vk_R q.1 q.2.1 q.2.2 sa U
/-- words that move with the tables: arrays over a type, what is castable and what isn't, what is declared -/
def mIO : String := "java/lang/IndexOutOfBoundsException"
def mIA : String := "java/lang/IllegalArgumentException"
def mIS : String := "java/lang/IllegalStateException"
def mYw : List Cond := [.castable "java/lang/IndexOutOfBoundsException" "java/lang/IndexOutOfBoundsException", .castable "java/lang/IllegalArgumentException" "java/lang/IllegalArgumentException", .castable "java/lang/IllegalStateException" "java/lang/IllegalStateException",
  .declares ⟨"java/lang/RuntimeException", "<init>", "(Ljava/lang/String;)V"⟩, .declares ⟨"java/lang/Exception", "<init>", "(Ljava/lang/String;)V"⟩, .declares ⟨"java/lang/Throwable", "<init>", "(Ljava/lang/String;)V"⟩]
theorem mYw_on : ∀ w ∈ mYw, w.onTables = true := by decide +kernel
theorem mYw_warm {s U : State} (hW : s.WarmedH U.vm) : ∀ w ∈ mYw, va_Nw w s → va_Nw w U := by
  intro w hw
  simp only [mYw, List.mem_cons, List.not_mem_nil, or_false] at hw
  rcases hw with h | h | h | h | h | h
  · rw [h]; exact va_Nw.warmC hW
  · rw [h]; exact va_Nw.warmC hW
  · rw [h]; exact va_Nw.warmC hW
  · rw [h]; exact va_Nw.warmD hW
  · rw [h]; exact va_Nw.warmD hW
  · rw [h]; exact va_Nw.warmD hW
def mY (U : State) : Prop := (va_AO "EdgeWear$Sort" U ∧ va_AO "EdgeWear$Tool" U ∧ va_AO "EdgeWear$Order" U) ∧ (∀ w ∈ mYw, va_Nw w U) ∧ va_Nc mIA mIO U ∧ va_Nc mIS mIO U ∧ va_Nc mIS mIA U
theorem mY.warm {s U : State} (hW : s.WarmedH U.vm) (h : mY s) : mY U := by
  obtain ⟨⟨a1, a2, a3⟩, b, c1, c2, c3⟩ := h
  exact ⟨⟨va_AO.moved hW.alike a1, va_AO.moved hW.alike a2, va_AO.moved hW.alike a3⟩, fun w hw => mYw_warm hW w hw (b w hw), va_Nc.moved hW.alike c1, va_Nc.moved hW.alike c2, va_Nc.moved hW.alike c3⟩
theorem mY.same {u U : State} (hv : u.vm = U.vm) (h : mY u) : mY U := by
  obtain ⟨⟨a1, a2, a3⟩, b, c1, c2, c3⟩ := h
  have hA : u.vm.Alike U.vm := by rw [hv]; exact Vm.Alike.refl _
  exact ⟨⟨va_AO.moved hA a1, va_AO.moved hA a2, va_AO.moved hA a3⟩, fun w hw => va_Nw.same (mYw_on w hw) hv (b w hw), va_Nc.moved hA c1, va_Nc.moved hA c2, va_Nc.moved hA c3⟩
theorem mY.use {args : Array Value} {s : State} (h : mY s) {w : Cond} (hw : w ∈ mYw) : w.before args s = true := va_Nw.use (mYw_on w hw) (h.2.1 w hw)
def mC (D : va_G) (cl : List vw_C) (tys : List (ClassId × FieldType)) (tx : List (String × Nat × String)) (A : Nat → Prop) (U : State) (H : Heap) : Prop := va_K D cl tys U ∧ mX A U H ∧ mT tx U ∧ mY U
theorem mA.in {ad : Nat → Nat} {G : mG} {sz r : Nat} {e : va_E} (h : G r = some e) : mA ad G sz (ad r) := Or.inl ⟨r, e, h, rfl⟩
theorem mX.to {A B : Nat → Prop} {u U : State} {H H1 : Heap} (h : mX A u H) (hvm : u.vm.Alike U.vm) (hq : ∀ a : Nat, a < H.size → ¬ A a → H1[a]? = H[a]?) (hAB : ∀ q, B q → A q) : mX B U H1 :=
  ⟨((vx_Zq.moved hvm h.1).kept hq).narrow hAB, ((vx_Zq.moved hvm h.2).kept hq).narrow hAB⟩
theorem mT.warm {tx : List (String × Nat × String)} {s U : State} (hW : s.WarmedH U.vm) (h : mT tx s) : mT tx U := fun q hq => by
  obtain ⟨sa, h1⟩ := h q hq
  exact ⟨sa, vk_R.warm hW h1⟩
theorem mC.to {D : va_G} {cl : List vw_C} {tys : List (ClassId × FieldType)} {tx : List (String × Nat × String)} {A B : Nat → Prop} {s U : State} {H H1 : Heap} (h : mC D cl tys tx A s H) (hW : s.WarmedH U.vm) (hq : ∀ a : Nat, a < H.size → ¬ A a → H1[a]? = H[a]?) (hAB : ∀ q, B q → A q) : mC D cl tys tx B U H1 :=
  ⟨va_K.moved hW.alike h.1, h.2.1.to hW.alike hq hAB, h.2.2.1.warm hW, h.2.2.2.warm hW⟩
theorem mS.start {D : va_G} {cl : List vw_C} {ad : Nat → Nat} {G : mG} {H : Heap} (h : mw D cl ad G H) : mS D cl (mA ad G H.size) H ad G H [] := ⟨h, fun r e hr => mA.in hr, va_S.rf⟩
theorem mS.free {D : va_G} {cl : List vw_C} {A : Nat → Prop} {H0 H : Heap} {ad : Nat → Nat} {G : mG} {locs : List Loc} (hm : mS D cl A H0 ad G H locs) (hA : ∀ q, H0.size ≤ q → A q) : ∀ q, mA ad G H.size q → A q := by
  intro q h
  rcases h with ⟨r, e, h1, h2⟩ | h
  · rw [← h2]; exact hm.2.1 r e h1
  · exact hA q (Nat.le_trans hm.2.2.1 h)
theorem mS.set {D : va_G} {cl : List vw_C} {A : Nat → Prop} {H0 H H1 : Heap} {ad : Nat → Nat} {G : mG} {locs : List Loc} {r k : Nat} {e0 e : va_E} (hm : mS D cl A H0 ad G H locs) (he : G r = some e0) (h1 : va_at D cl (ad r, e) H1) (z : H1.size = H.size) (oq : ∀ q : Nat, q ≠ ad r → H1[q]? = H[q]?) : mS D cl A H0 ad (va_up G r (some e)) H1 (locs ++ [⟨ad r, k⟩]) := by
  obtain ⟨⟨hP, hI⟩, hD, hS⟩ := hm
  have f : ∀ (r' : Nat) (e' : va_E), va_up G r (some e) r' = some e' → ∃ e'' : va_E, G r' = some e'' := by
    intro r' e' h'
    by_cases hr : r' = r
    · exact ⟨e0, by rw [hr]; exact he⟩
    · rw [va_up_ne _ _ hr] at h'
      exact ⟨e', h'⟩
  refine ⟨⟨fun r' e' h' => ?_, fun r1 r2 e1 e2 h1 h2 hh => ?_⟩, fun r' e' h' => ?_, hS.put z oq (hD r _ he)⟩
  · by_cases hr : r' = r
    · subst hr
      rw [va_up_self] at h'
      cases h'
      exact h1
    · rw [va_up_ne _ _ hr] at h'
      exact (hP r' e' h').kept (oq _ (fun q => hr (hI _ _ _ _ h' he q)))
  · obtain ⟨e3, h3⟩ := f r1 e1 h1
    obtain ⟨e4, h4⟩ := f r2 e2 h2
    exact hI _ _ _ _ h3 h4 hh
  · obtain ⟨e3, h3⟩ := f r' e' h'
    exact hD _ _ h3
theorem mS.push {D : va_G} {cl : List vw_C} {A : Nat → Prop} {H0 H H1 : Heap} {ad : Nat → Nat} {G : mG} {locs : List Loc} {r : Nat} {e : va_E} (hm : mS D cl A H0 ad G H locs) (hA : ∀ q, H0.size ≤ q → A q) (hr : G r = none) (h1 : va_at D cl (H.size, e) H1) (z : H.size ≤ H1.size) (o1 : ∀ q : Nat, q < H.size → H1[q]? = H[q]?) : mS D cl A H0 (va_up ad r H.size) (va_up G r (some e)) H1 locs := by
  obtain ⟨⟨hP, hI⟩, hD, hS⟩ := hm
  have lt : ∀ (r' : Nat) (e' : va_E), G r' = some e' → ad r' < H.size := fun r' e' h' => (hP r' e' h').lt
  refine ⟨⟨fun r' e' h' => ?_, fun r1 r2 e1 e2 h1 h2 hh => ?_⟩, fun r' e' h' => ?_, ⟨Nat.le_trans hS.1 z, fun x g1 g2 => (o1 x (Nat.lt_of_lt_of_le g1 hS.1)).trans (hS.2.1 x g1 g2), hS.2.2⟩⟩
  · by_cases hq : r' = r
    · subst hq
      rw [va_up_self] at h'
      cases h'
      rw [va_up_self]
      exact h1
    · rw [va_up_ne _ _ hq] at h'
      rw [va_up_ne _ _ hq]
      exact (hP r' e' h').kept (o1 _ (lt _ _ h'))
  · by_cases hq1 : r1 = r
    · by_cases hq2 : r2 = r
      · rw [hq1, hq2]
      · rw [va_up_ne _ _ hq2] at h2
        rw [hq1, va_up_self, va_up_ne _ _ hq2] at hh
        have := lt _ _ h2
        omega
    · rw [va_up_ne _ _ hq1] at h1
      by_cases hq2 : r2 = r
      · rw [hq2, va_up_self, va_up_ne _ _ hq1] at hh
        have := lt _ _ h1
        omega
      · rw [va_up_ne _ _ hq2] at h2
        rw [va_up_ne _ _ hq1, va_up_ne _ _ hq2] at hh
        exact hI _ _ _ _ h1 h2 hh
  · by_cases hq : r' = r
    · rw [hq, va_up_self]
      exact hA _ hS.1
    · rw [va_up_ne _ _ hq] at h'
      rw [va_up_ne _ _ hq]
      exact hD _ _ h'
theorem mS.one {D : va_G} {cl : List vw_C} {A : Nat → Prop} {H0 H : Heap} {ad : Nat → Nat} {G : mG} {locs : List Loc} {r : Nat} {e : va_E} (hm : mS D cl A H0 ad G H locs) (he : G r = some e) : va_P D cl [(ad r, e)] H := by
  intro k q hk
  have hz : k < 1 := (List.getElem?_eq_some_iff.mp hk).1
  rw [show k = 0 by omega] at hk
  cases hk
  exact hm.1.1 r e he
section MROWS
variable {p : Program} {l : Launch} {e : Env} {R : Room} {s : State} {m : MethodId} {args : Array Value} {below : List Frame} {meth : Method} {c : Code} {H : Heap} {locs : List Loc} {cells slots : Nat} {Q : State → Prop}
variable {cc : ByteArray} {pc : Nat} {ls : Array Slot} {rest : List Value} {D : va_G} {cl : List vw_C} {A : Nat → Prop} {a : Nat} {tys : List (ClassId × FieldType)} {H0 : Heap} {ad : Nat → Nat} {G : mG}
theorem m_get (hexec : p.tables.exec = Jvm.exec) (hb : c.code = cc) {own ref C : String} {T : u_T} {N ci index : Nat} {Ts : List Cond} (hts : ∀ w ∈ Ts, w.before args s = true) (hin : ∀ w ∈ u_ws C T N, w ∈ Ts) (hown : s.vm.findClass own = some m.cls) (hK : va_K D cl tys s) (hm : mS D cl A H0 ad G H locs) (r : Nat) (ea : a = ad r) {fs : List Value} (he : G r = some (.inr (ci, fs))) (hc : cl[ci]? = some (C, T, N)) (k : Nat) (hk : k < N) (hlink : (Cond.fieldLink own index ref (T k).2.1 (T k).2.2.1).before args s = true) (hsame : ∀ x, s.fieldFound? (T k).1 (T k).2.1 (T k).2.2.1 = some x → s.fieldFound? ref (T k).2.1 (T k).2.2.1 = some x) {v : Value} (hv : fs[k]? = some v) (hdg : decode cc pc = .ok (.getfield index, 3))
    (kk : W p l e R s m args below meth c H locs cells slots Q (F0 m (pc + 3) ls (v :: rest))) : W p l e R s m args below meth c H locs cells slots Q (F0 m pc ls (.ref a :: rest)) := by
  subst ea
  exact va_get hexec hb hts hin hown hK (hm.one he) 0 rfl hc k hk hlink hsame hv hdg kk
theorem m_put (hexec : p.tables.exec = Jvm.exec) (hb : c.code = cc) {own ref C : String} {T : u_T} {N ci index : Nat} {Ts : List Cond} (hts : ∀ w ∈ Ts, w.before args s = true) (hin : ∀ w ∈ u_ws C T N, w ∈ Ts) (ty0 : Nat → FieldType) (hty : ∀ k, k < N → parseFieldDescriptor (T k).2.2.1 = some (ty0 k)) (hnm : ∀ a, a < N → ∀ b, b < N → a ≠ b → (T a).2.1 ≠ (T b).2.1) (hown : s.vm.findClass own = some m.cls) (hK : va_K D cl tys s) (hm : mS D cl A H0 ad G H locs) (r : Nat) (ea : a = ad r) {fs : List Value} (he : G r = some (.inr (ci, fs))) (hc : cl[ci]? = some (C, T, N)) (k : Nat) (hk : k < N) (hlink : (Cond.fieldLink own index ref (T k).2.1 (T k).2.2.1).before args s = true) (hsame : ∀ x, s.fieldFound? (T k).1 (T k).2.1 (T k).2.2.1 = some x → s.fieldFound? ref (T k).2.1 (T k).2.2.1 = some x) (hfin : (T k).2.2.2 = false) {ty : FieldType} {v : Value} (hd : parseFieldDescriptor (T k).2.2.1 = some ty) (hn : narrow ty v = v) (hfit : fits ty v = true) (hl : k < fs.length)
    (hdg : decode cc pc = .ok (.putfield index, 3)) (kk : ∀ (H1 : Heap) (locs1 : List Loc), mS D cl A H0 ad (va_up G r (some (.inr (ci, fs.set k v)))) H1 locs1 → W p l e R s m args below meth c H1 locs1 cells slots Q (F0 m (pc + 3) ls rest)) : W p l e R s m args below meth c H locs cells slots Q (F0 m pc ls (v :: .ref a :: rest)) := by
  subst ea
  have hap := va_apart (own := own) hts hin ty0 hty hnm hK hc
  obtain ⟨r', h1, cell, q1, q2, q3, q4⟩ := hm.1.1 r _ he
  have hr : r' = (C, T, N) := Option.some.inj (h1.symm.trans hc)
  subst hr
  obtain ⟨hS, hfc, kC, hkC, hkind⟩ := hK.1 ci _ hc
  obtain ⟨cf, kf, fi, f, hi, hsl⟩ := hS k hk
  have hlay := hts _ (hin _ (u_in_lay hk))
  unfold u_lay at hlay
  rw [if_neg (by rw [hfin]; decide)] at hlay
  have hst := (u_facts hfc hkC (u_lays hts hin hk) hi).1
  have h6 := u_store hfc hkC hkind hlay hi hd hn hfit
  refine W.putK hexec hb (f := f) ⟨hown, hlink, ⟨_, _, _, hsame _ hi⟩, hst⟩ (by rw [q2]; exact h6) q1 q3 (by rw [hsl]; exact k2_hasslot (q4 k hk)) rfl rfl hdg fun H' e1 e2 e3 => ?_
  rw [hsl] at e1 ⊢
  exact kk H' _ (hm.set he ⟨_, hc, t_OB.to (V := updV (vp_V fs) k v) ⟨_, e1, q2, q3, t_set q4 hap hk v⟩ (fun j _ => vp_updV_set hl v j)⟩ e2 e3)
theorem m_putF (hexec : p.tables.exec = Jvm.exec) (hb : c.code = cc) {own ref C : String} {T : u_T} {N ci index : Nat} {Ts : List Cond} (hts : ∀ w ∈ Ts, w.before args s = true) (hin : ∀ w ∈ u_ws C T N, w ∈ Ts) (ty0 : Nat → FieldType) (hty : ∀ k, k < N → parseFieldDescriptor (T k).2.2.1 = some (ty0 k)) (hnm : ∀ a, a < N → ∀ b, b < N → a ≠ b → (T a).2.1 ≠ (T b).2.1) (hown : s.vm.findClass own = some m.cls) (hK : va_K D cl tys s) (hm : mS D cl A H0 ad G H locs) (r : Nat) (ea : a = ad r) {fs : List Value} (he : G r = some (.inr (ci, fs))) (hc : cl[ci]? = some (C, T, N)) (k : Nat) (hk : k < N) (hlink : (Cond.fieldLink own index ref (T k).2.1 (T k).2.2.1).before args s = true) (hsame : ∀ x, s.fieldFound? (T k).1 (T k).2.1 (T k).2.2.1 = some x → s.fieldFound? ref (T k).2.1 (T k).2.2.1 = some x) (hfin : (T k).2.2.2 = true) (hin2 : meth.name = "<init>") (hdecl : (T k).1 = own) {ty : FieldType} {v : Value} (hd : parseFieldDescriptor (T k).2.2.1 = some ty) (hn : narrow ty v = v) (hfit : fits ty v = true) (hl : k < fs.length)
    (hdg : decode cc pc = .ok (.putfield index, 3)) (kk : ∀ (H1 : Heap) (locs1 : List Loc), mS D cl A H0 ad (va_up G r (some (.inr (ci, fs.set k v)))) H1 locs1 → W p l e R s m args below meth c H1 locs1 cells slots Q (F0 m (pc + 3) ls rest)) : W p l e R s m args below meth c H locs cells slots Q (F0 m pc ls (v :: .ref a :: rest)) := by
  subst ea
  have hap := va_apart (own := own) hts hin ty0 hty hnm hK hc
  obtain ⟨r', h1, cell, q1, q2, q3, q4⟩ := hm.1.1 r _ he
  have hr : r' = (C, T, N) := Option.some.inj (h1.symm.trans hc)
  subst hr
  obtain ⟨hS, hfc, kC, hkC, hkind⟩ := hK.1 ci _ hc
  obtain ⟨cf, kf, fi, f, hi, hsl⟩ := hS k hk
  have hlay := hts _ (hin _ (u_in_lay hk))
  unfold u_lay at hlay
  rw [if_pos hfin] at hlay
  have hst := (u_facts hfc hkC (u_lays hts hin hk) hi).1
  have hcf : m.cls = cf := by
    obtain ⟨_, _, c', _, _, _, -, -, hf', -, -, -, hown2, -⟩ := Cond.laysFinal_spec hlay
    have e1 : c' = cf := by have := hi.symm.trans hf'; simp at this; exact this.1.symm
    rw [hdecl] at hown2
    rw [← e1]; exact Option.some.inj (hown.symm.trans hown2)
  have h6 := u_fits hfc hkC hkind (Or.inr hlay) hi hd hn hfit
  refine W.putFinK hexec hb hown hlink (hsame _ hi) hst hcf hin2 (by rw [q2]; exact h6) q1 q3 (by rw [hsl]; exact k2_hasslot (q4 k hk)) rfl rfl hdg fun H' e1 e2 e3 => ?_
  rw [hsl] at e1 ⊢
  exact kk H' _ (hm.set he ⟨_, hc, t_OB.to (V := updV (vp_V fs) k v) ⟨_, e1, q2, q3, t_set q4 hap hk v⟩ (fun j _ => vp_updV_set hl v j)⟩ e2 e3)
theorem m_iald (hexec : p.tables.exec = Jvm.exec) (hb : c.code = cc) (hK : va_K D cl tys s) (hm : mS D cl A H0 ad G H locs) (r : Nat) (ea : a = ad r) (t0 : Nat) {cA : ClassId} {n : Nat} {f : Nat → Int32} (ha : G r = some (.inl (cA, n, .inl f))) (ht : tys[t0]? = some (cA, .int)) {i : Int32} {v : Int32} (hin : vp_in i n) (hv : f i.toNatClampNeg = v) (hdg : decode cc pc = .ok (.iaload, 1))
    (kk : W p l e R s m args below meth c H locs cells slots Q (F0 m (pc + 1) ls (.int v :: rest))) : W p l e R s m args below meth c H locs cells slots Q (F0 m pc ls (.int i :: .ref a :: rest)) := by
  subst ea; subst hv
  exact va_iald hexec hb hK (hm.one ha) 0 t0 rfl ht hin hdg kk
theorem m_lald (hexec : p.tables.exec = Jvm.exec) (hb : c.code = cc) (hK : va_K D cl tys s) (hm : mS D cl A H0 ad G H locs) (r : Nat) (ea : a = ad r) (t0 : Nat) {cA : ClassId} {n : Nat} {f : Nat → Int64} (ha : G r = some (.inl (cA, n, .inr (.inl f)))) (ht : tys[t0]? = some (cA, .long)) {i : Int32} {v : Int64} (hin : vp_in i n) (hv : f i.toNatClampNeg = v) (hdg : decode cc pc = .ok (.laload, 1))
    (kk : W p l e R s m args below meth c H locs cells slots Q (F0 m (pc + 1) ls (.long v :: rest))) : W p l e R s m args below meth c H locs cells slots Q (F0 m pc ls (.int i :: .ref a :: rest)) := by
  subst ea; subst hv
  exact va_lald hexec hb hK (hm.one ha) 0 t0 rfl ht hin hdg kk
theorem m_zald (hexec : p.tables.exec = Jvm.exec) (hb : c.code = cc) (hK : va_K D cl tys s) (hm : mS D cl A H0 ad G H locs) (r : Nat) (ea : a = ad r) (t0 : Nat) {cA : ClassId} {n : Nat} {f : Nat → Int32} (ha : G r = some (.inl (cA, n, .inl f))) (ht : tys[t0]? = some (cA, .boolean)) {i : Int32} {v : Int32} (hin : vp_in i n) (hv : f i.toNatClampNeg = v) (hdg : decode cc pc = .ok (.baload, 1))
    (kk : W p l e R s m args below meth c H locs cells slots Q (F0 m (pc + 1) ls (.int v :: rest))) : W p l e R s m args below meth c H locs cells slots Q (F0 m pc ls (.int i :: .ref a :: rest)) := by
  subst ea; subst hv
  exact va_zald hexec hb hK (hm.one ha) 0 t0 rfl ht hin hdg kk
theorem m_aald (hexec : p.tables.exec = Jvm.exec) (hb : c.code = cc) (hK : va_K D cl tys s) (hm : mS D cl A H0 ad G H locs) (r : Nat) (ea : a = ad r) (t0 : Nat) {cA : ClassId} {C : String} {n : Nat} {f : Nat → Option Nat} (ha : G r = some (.inl (cA, n, .inr (.inr (.inr (.inr f)))))) (ht : tys[t0]? = some (cA, .object C)) {i : Int32} {v : Value} (hin : vp_in i n) (hv : va_rf (f i.toNatClampNeg) = v) (hdg : decode cc pc = .ok (.aaload, 1))
    (kk : W p l e R s m args below meth c H locs cells slots Q (F0 m (pc + 1) ls (v :: rest))) : W p l e R s m args below meth c H locs cells slots Q (F0 m pc ls (.int i :: .ref a :: rest)) := by
  subst ea; subst hv
  exact va_aldq hexec hb hK (hm.one ha) 0 t0 rfl ht hin hdg kk
theorem m_alen (hexec : p.tables.exec = Jvm.exec) (hb : c.code = cc) (hK : va_K D cl tys s) (hm : mS D cl A H0 ad G H locs) (r : Nat) (ea : a = ad r) (t0 : Nat) {cA : ClassId} {x : vp_A} (ha : G r = some (.inl (cA, x))) {ty : FieldType} (ht : tys[t0]? = some (cA, ty)) {v : Int32} (hv : Int32.ofNat x.1 = v) (hdg : decode cc pc = .ok (.arraylength, 1))
    (kk : W p l e R s m args below meth c H locs cells slots Q (F0 m (pc + 1) ls (.int v :: rest))) : W p l e R s m args below meth c H locs cells slots Q (F0 m pc ls (.ref a :: rest)) := by
  subst ea
  exact va_alen hexec hb hK (hm.one ha) 0 t0 rfl ht hv hdg kk
theorem m_iast (hexec : p.tables.exec = Jvm.exec) (hb : c.code = cc) (hK : va_K D cl tys s) (hm : mS D cl A H0 ad G H locs) (r : Nat) (ea : a = ad r) (t0 : Nat) {cA : ClassId} {n : Nat} {f : Nat → Int32} (ha : G r = some (.inl (cA, n, .inl f))) (ht : tys[t0]? = some (cA, .int)) {i x : Int32} (hin : vp_in i n) (hdg : decode cc pc = .ok (.iastore, 1))
    (kk : ∀ (H1 : Heap) (locs1 : List Loc), mS D cl A H0 ad (va_up G r (some (.inl (cA, n, .inl (upd f i.toNatClampNeg x))))) H1 locs1 → W p l e R s m args below meth c H1 locs1 cells slots Q (F0 m (pc + 1) ls rest)) : W p l e R s m args below meth c H locs cells slots Q (F0 m pc ls (.int x :: .int i :: .ref a :: rest)) := by
  subst ea
  refine W.iast hexec hb (hm.1.1 r _ ha) ((hK.2 t0 _ ht).1 n (fun j => .int (f j))) (fun q => by cases q) (by show ¬ (i < 0 ∨ (arrV _ _ _).slots.size ≤ _); rw [arrV_size]; exact hin) rfl rfl hdg fun H1 e1 z oq => ?_
  refine kk H1 _ (hm.set ha ?_ z oq)
  show H1[ad r]? = some (vp_cell _ _)
  rw [e1, vp_cell_i, vp_cell_i, arrV_store]
  congr 2
  funext q
  by_cases hq : q = i.toNatClampNeg
  · subst hq
    simp [updV, upd]
  · simp [updV, upd, hq]
theorem m_last (hexec : p.tables.exec = Jvm.exec) (hb : c.code = cc) (hK : va_K D cl tys s) (hm : mS D cl A H0 ad G H locs) (r : Nat) (ea : a = ad r) (t0 : Nat) {cA : ClassId} {n : Nat} {f : Nat → Int64} (ha : G r = some (.inl (cA, n, .inr (.inl f)))) (ht : tys[t0]? = some (cA, .long)) {i : Int32} {x : Int64} (hin : vp_in i n) (hdg : decode cc pc = .ok (.lastore, 1))
    (kk : ∀ (H1 : Heap) (locs1 : List Loc), mS D cl A H0 ad (va_up G r (some (.inl (cA, n, .inr (.inl (vp_updL f i.toNatClampNeg x)))))) H1 locs1 → W p l e R s m args below meth c H1 locs1 cells slots Q (F0 m (pc + 1) ls rest)) : W p l e R s m args below meth c H locs cells slots Q (F0 m pc ls (.long x :: .int i :: .ref a :: rest)) := by
  subst ea
  refine W.last hexec hb (hm.1.1 r _ ha) ((hK.2 t0 _ ht).1 n (fun j => .long (f j))) (fun q => by cases q) (by show ¬ (i < 0 ∨ (arrV _ _ _).slots.size ≤ _); rw [arrV_size]; exact hin) rfl rfl hdg fun H1 e1 z oq => ?_
  refine kk H1 _ (hm.set ha ?_ z oq)
  show H1[ad r]? = some (vp_cell _ _)
  rw [e1, vp_cell_l, vp_cell_l, arrV_store]
  congr 2
  funext q
  by_cases hq : q = i.toNatClampNeg
  · subst hq
    simp [updV, vp_updL]
  · simp [updV, vp_updL, hq]
theorem m_zast (hexec : p.tables.exec = Jvm.exec) (hb : c.code = cc) (hK : va_K D cl tys s) (hm : mS D cl A H0 ad G H locs) (r : Nat) (ea : a = ad r) (t0 : Nat) {cA : ClassId} {n : Nat} {f : Nat → Int32} (ha : G r = some (.inl (cA, n, .inl f))) (ht : tys[t0]? = some (cA, .boolean)) {i x : Int32} (hin : vp_in i n) (hdg : decode cc pc = .ok (.bastore, 1))
    (kk : ∀ (H1 : Heap) (locs1 : List Loc), mS D cl A H0 ad (va_up G r (some (.inl (cA, n, .inl (upd f i.toNatClampNeg (vp_nar .boolean x)))))) H1 locs1 → W p l e R s m args below meth c H1 locs1 cells slots Q (F0 m (pc + 1) ls rest)) : W p l e R s m args below meth c H locs cells slots Q (F0 m pc ls (.int x :: .int i :: .ref a :: rest)) := by
  subst ea
  refine W.zast hexec hb (hm.1.1 r _ ha) ((hK.2 t0 _ ht).1 n (fun j => .int (f j))) (fun q => by cases q) (by show ¬ (i < 0 ∨ (arrV _ _ _).slots.size ≤ _); rw [arrV_size]; exact hin) rfl rfl hdg fun H1 e1 z oq => ?_
  refine kk H1 _ (hm.set ha ?_ z oq)
  show H1[ad r]? = some (vp_cell _ _)
  rw [e1, vp_cell_i, vp_cell_i, arrV_store]
  congr 2
  funext q
  by_cases hq : q = i.toNatClampNeg
  · subst hq
    simp [updV, upd, vp_nar]
    try rfl
  · simp [updV, upd, hq]
theorem m_aast (hexec : p.tables.exec = Jvm.exec) (hb : c.code = cc) (hK : va_K D cl tys s) (hm : mS D cl A H0 ad G H locs) (r : Nat) (ea : a = ad r) (t0 rk ci : Nat) {cA : ClassId} {r' : vw_C} {n v : Nat} (ev : v = ad rk) {vs : List Value} {f : Nat → Option Nat} (ha : G r = some (.inl (cA, n, .inr (.inr (.inr (.inr f)))))) (ht : tys[t0]? = some (cA, .object r'.1)) (hv : G rk = some (.inr (ci, vs))) (hc : cl[ci]? = some r') {i : Int32} (hin : vp_in i n) (hdg : decode cc pc = .ok (.aastore, 1))
    (kk : ∀ (H1 : Heap) (locs1 : List Loc), mS D cl A H0 ad (va_up G r (some (.inl (cA, n, .inr (.inr (.inr (.inr (va_up f i.toNatClampNeg (some v))))))))) H1 locs1 → W p l e R s m args below meth c H1 locs1 cells slots Q (F0 m (pc + 1) ls rest)) : W p l e R s m args below meth c H locs cells slots Q (F0 m pc ls (.ref v :: .int i :: .ref a :: rest)) := by
  subst ea; subst ev
  have hlt : i.toNatClampNeg < n := Nat.not_le.mp fun q => hin (Or.inr q)
  have h0 : ¬ i < 0 := fun q => hin (Or.inl q)
  obtain ⟨r9, hr9, cellV, g1, g2, g3, -⟩ := hm.1.1 rk _ hv
  have hcls := (hK.1 ci r' hc).2
  obtain ⟨kA, comp, k1, k2, k3, -⟩ := (hK.2 t0 _ ht).2
  have hcomp : comp = D.1 ci := Option.some.inj (k3.symm.trans hcls.1)
  subst hcomp
  obtain ⟨kC, hkC, -⟩ := hcls.2
  refine W.aast hexec hb (hm.1.1 r _ ha) (fun q h => by cases h) (fun h => by cases h) k1 k2 rfl hkC ⟨h0, by show _ < (arrV _ _ _).slots.size; rw [arrV_size]; exact hlt⟩ g1 (fun q h => by rw [g3] at h; cases h) (by rw [g2]; exact hkC) (by rw [g2]; exact va_assign hcls) rfl rfl hdg fun H1 e1 z oq => ?_
  refine kk H1 _ (hm.set ha ?_ z oq)
  show H1[ad r]? = some (vp_cell _ _)
  rw [e1, vp_cell_q, vp_cell_q, arrV_store]
  congr 2
  funext q
  by_cases hq : q = i.toNatClampNeg
  · subst hq
    simp [updV, va_up, va_rf]
  · simp [updV, va_up, hq]
theorem m_newa (hexec : p.tables.exec = Jvm.exec) (hb : c.code = cc) {atype : ArrayType} (harr : (Cond.arrayClass (newarray.typeOf atype)).before args s = true) {ty : FieldType} (hty : newarray.typeOf atype = ty) (hm : mS D cl A H0 ad G H locs) (hA : ∀ q, H0.size ≤ q → A q) (r : Nat) (hr : G r = none) {cA : ClassId} (hcA : s.vm.findClass ("[" ++ ty.toString) = some cA)
    {n : Int32} {N' : Nat} {a0 : vp_A} (ha : ∀ cA : ClassId, vp_cell cA a0 = arrV cA N' (fun _ => defaultValue ty)) (hn : ¬ n < 0) (hN : n.toNatClampNeg = N') (hbytes : N' * componentBytes ty ≤ 536870912) (hcells : cells + 1 ≤ R.cells) (hslots : slots + N' ≤ R.slots) (hdg : decode cc pc = .ok (.newarray atype, 2))
    (kk : ∀ (q : Nat) (H1 : Heap), mS D cl A H0 (va_up ad r q) (va_up G r (some (.inl (cA, a0)))) H1 locs →
      W p l e R s m args below meth c H1 locs (cells + 1) (slots + N') Q (F0 m (pc + 2) ls (.ref q :: rest))) : W p l e R s m args below meth c H locs cells slots Q (F0 m pc ls (.int n :: rest)) := by
  subst hty
  refine va_newaK hexec hb harr rfl hdg rfl hn hN hbytes hcells hslots rfl fun H1 cA' e1 z1 o1 hAr hNm => ?_
  have hc9 : cA' = cA := Option.some.inj (hNm.symm.trans hcA)
  subst hc9
  refine kk H.size H1 (hm.push hA hr ?_ (by omega) o1)
  show H1[H.size]? = some (vp_cell _ _)
  rw [ha]
  exact e1
theorem m_newq (hexec : p.tables.exec = Jvm.exec) (hb : c.code = cc) {own C : String} {index : Nat} (hown : s.vm.findClass own = some m.cls) (hclink : (Cond.classLink own index C).before args s = true) (hover : (Cond.arrayOver (.object C)).before args s = true) (hm : mS D cl A H0 ad G H locs) (hA : ∀ q, H0.size ≤ q → A q) (r : Nat) (hr : G r = none) {cA : ClassId} (hcA : s.vm.findClass ("[" ++ (FieldType.object C).toString) = some cA)
    {n : Int32} {N' : Nat} (hn : ¬ n < 0) (hN : n.toNatClampNeg = N') (hbytes : N' * 4 ≤ 536870912) (hcells : cells + 1 ≤ R.cells) (hslots : slots + N' ≤ R.slots) (hdg : decode cc pc = .ok (.anewarray index, 3))
    (kk : ∀ (q : Nat) (H1 : Heap), mS D cl A H0 (va_up ad r q) (va_up G r (some (.inl (cA, N', .inr (.inr (.inr (.inr (fun _ => none)))))))) H1 locs →
      W p l e R s m args below meth c H1 locs (cells + 1) (slots + N') Q (F0 m (pc + 3) ls (.ref q :: rest))) : W p l e R s m args below meth c H locs cells slots Q (F0 m pc ls (.int n :: rest)) := by
  subst hN
  refine W.anew hexec hb hown hclink hover rfl hdg rfl hn hbytes hcells hslots fun cA' kA comp f1 f2 f3 f4 => ?_
  have hc9 : cA' = cA := Option.some.inj (f1.symm.trans hcA)
  subst hc9
  refine kk H.size _ (hm.push hA hr ?_ (by rw [Array.size_push]; omega) (fun q hq => by rw [Array.getElem?_push, if_neg (Nat.ne_of_lt hq)]))
  show _ = some (vp_cell _ _)
  rw [vp_cell_q, Array.getElem?_push_size, ← arrV_new]
  rfl
theorem m_new (hexec : p.tables.exec = Jvm.exec) (hb : c.code = cc) {own C : String} {T : u_T} {N ci index : Nat} {Ts : List Cond} (hts : ∀ w ∈ Ts, w.before args s = true) (hin : ∀ w ∈ u_ws C T N, w ∈ Ts) (ty : Nat → FieldType) (hty : ∀ k, k < N → parseFieldDescriptor (T k).2.2.1 = some (ty k)) (hown : s.vm.findClass own = some m.cls) (hcl : (Cond.classLink own index C).before args s = true) (hinst : (Cond.instantiable C N).before args s = true) (hini : (Cond.initialized C).before args s = true)
    (hK : va_K D cl tys s) (hm : mS D cl A H0 ad G H locs) (hA : ∀ q, H0.size ≤ q → A q) (r : Nat) (hr : G r = none) (hc : cl[ci]? = some (C, T, N)) {fs : List Value} (hfs : ∀ j, j < N → defaultValue (ty j) = vp_V fs j) (hcells : cells + 1 ≤ R.cells) (hslots : slots + N ≤ R.slots) (hdg : decode cc pc = .ok (.new index, 3))
    (kk : ∀ (q : Nat) (H1 : Heap), mS D cl A H0 (va_up ad r q) (va_up G r (some (.inr (ci, fs)))) H1 locs →
      W p l e R s m args below meth c H1 locs (cells + 1) (slots + N) Q (F0 m (pc + 3) ls (.ref q :: rest))) : W p l e R s m args below meth c H locs cells slots Q (F0 m pc ls rest) := by
  have hKn := hK.1 ci _ hc
  refine W.newcK hexec hb hown hcl hinst hini rfl hdg hcells hslots hKn.2.1 rfl fun H1 kC hkC e1 z1 o1 => ?_
  exact kk H.size H1 (hm.push hA hr ⟨_, hc, (u_born ty hts hin hKn hkC e1 hty).to hfs⟩ (by omega) o1)
end MROWS
