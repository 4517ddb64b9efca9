/-! the law's loop: what each round begins and ends with -/
def gO (dA : Nat → ClassId) (f : Nat → Int64) : mG := fun r => if r = 2000 then some (.inl (dA 1, 1, .inr (.inl f))) else none
theorem gO_at {dA : Nat → ClassId} {f : Nat → Int64} : gO dA f 2000 = some (.inl (dA 1, 1, .inr (.inl f))) := if_pos rfl
theorem gO_up {dA : Nat → ClassId} {f f1 : Nat → Int64} : va_up (gO dA f) 2000 (some (.inl (dA 1, 1, .inr (.inl f1)))) = gO dA f1 := by
  funext r
  by_cases h : r = 2000
  · rw [h, va_up_self, gO_at]
  · rw [va_up_ne _ _ h]
    unfold gO
    rw [if_neg h, if_neg h]
theorem gM_up {dA : Nat → ClassId} {ad : Nat → Nat} {A : Nat → Nat → Int32} {B : Nat → Nat → Int64} {S : Nat → Int32} {sd : Int64} {G0 : mG} (q : Nat) (hq : 1100 ≤ q) (e : Option va_E) : va_up (gM dA ad A B S sd G0) q e = gM dA ad A B S sd (va_up G0 q e) := by
  funext r
  by_cases h : r = q
  · rw [h, va_up_self, gM_out (Or.inr hq), va_up_self]
  · rw [va_up_ne _ _ h]
    unfold gM
    rw [va_up_ne _ _ h]
theorem law_w2 {dA : Nat → ClassId} {ad ad1 : Nat → Nat} {x1 : eS} {A : Nat → Nat → Int32} {B : Nat → Nat → Int64} {S : Nat → Int32} {sd : Int64} {X : mG} (h : ∀ k, 1000 ≤ k → ad1 k = ad k) : gEx dA ad1 x1 (gM dA ad A B S sd X) = gM dA ad1 A B S sd (gEx dA ad1 x1 X) := by
  rw [gM_ad h]
  exact gEM
theorem law_w1 {dA : Nat → ClassId} {ad ad1 : Nat → Nat} {x1 : eS} {A : Nat → Nat → Int32} {B : Nat → Nat → Int64} {S : Nat → Int32} {sd : Int64} {f f1 : Nat → Int64} (h : ∀ k, 1000 ≤ k → ad1 k = ad k) : gEx dA ad1 x1 (va_up (gM dA ad A B S sd (gO dA f)) 2000 (some (.inl (dA 1, 1, .inr (.inl f1))))) = gM dA ad1 A B S sd (gEx dA ad1 x1 (gO dA f1)) := by
  rw [gM_up 2000 (by decide), gO_up]
  exact law_w2 h
theorem Kp.mono {n : Nat} {x : eS} {y : mSt} {sd : Int64} (h : Kp n x y sd) : Kp (n + 1) x y sd := by
  obtain ⟨I, J, F, si, tc, oc⟩ := x
  obtain ⟨A, B, S⟩ := y
  obtain ⟨h1, h2, h3, ⟨h4, h5, h6⟩, h7, h8⟩ := h
  exact ⟨h1, h2, h3, ⟨h4, h5, fun i hi => (h6 i hi).mono⟩, h7, h8⟩
theorem lw_len {L i : Nat} (hL : L ≤ 2561) (hi : i ≤ 3000) : nI L - 5 < nI i ↔ L < i + 5 := by
  rw [Int32.lt_iff_toInt_lt, show (5 : Int32) = nI 5 from rfl, pk_sub_toInt (by omega) (by omega), nI_toInt (by omega)]
  omega
def lwC (p : Program) (s : State) (m : MethodId) (meth : Method) (c : Code) (D : va_G) (dA : Nat → ClassId) (b L : Nat) (xs : Nat → Int32) : Prop :=
  (p.tables.exec = Jvm.exec ∧ c.code = code ∧ meth.sig.returnType = ret ∧ c.maxLocals = 8 ∧ s.vm.findClass "EdgeWearLaw" = some m.cls) ∧ (∀ w ∈ Cond.initialized "EdgeWear" :: mBig, w.before #[Value.ref b] s = true) ∧ (va_X b L xs s s.heap ∧ b < s.heap.size ∧ L ≤ 2561) ∧ meth.locks = false ∧ mC D mCl (mTys dA) mTx (fun q => s.heap.size ≤ q) s s.heap
abbrev lwL (b : Nat) (ad : Nat → Nat) (i : Nat) : List (Nat × Value) := [(0, .ref b), (1, .ref (ad 0)), (2, .ref (ad 1000)), (3, .ref (ad 2000)), (4, .int (nI i))]
abbrev lwG (dA : Nat → ClassId) (ad : Nat → Nat) (x : eS) (y : mSt) (sd : Int64) (f : Nat → Int64) : mG := gMx dA ad y sd (gEx dA ad x (gO dA f))
def lwK (p : Program) (l : Launch) (e : Env) (s : State) (m : MethodId) (b : Nat) (below : List Frame) (meth : Method) (c : Code) (D : va_G) (dA : Nat → ClassId) (Q : State → Prop) (sd : Int64) (pc n i : Nat) : Prop :=
  ∀ (ad : Nat → Nat) (x : eS) (y : mSt) (f : Nat → Int64) (ls : Array Slot) (H : Heap) (locs : List Loc), Kp n x y sd → lv_has ls 8 (lwL b ad i) → mS D mCl (fun q => s.heap.size ≤ q) s.heap ad (lwG dA ad x y sd f) H locs → W p l e room_1 s m #[Value.ref b] below meth c H locs (36 + 4 * n) (1300 + 42 * n) Q (F0 m pc ls [])
section LARG
variable {p : Program} {l : Launch} {e : Env} {R : Room} {s : State} {m : MethodId} {args : Array Value} {below : List Frame} {meth : Method} {c : Code} {H : Heap} {locs : List Loc} {cells slots : Nat} {Q : State → Prop}
variable {cc : ByteArray} {pc : Nat} {ls : Array Slot} {rest : List Value} {D : va_G} {cl : List vw_C} {ad : Nat → Nat} {G : mG} {b L i : Nat} {xs : Nat → Int32}
/-- the script's place i + k -/
theorem lw_arg (hx : p.tables.exec = Jvm.exec) (hb : c.code = cc) (hX : va_X b L xs s s.heap) (hbl : b < s.heap.size) (hL : L ≤ 2561) (hm : mS D cl (fun q => s.heap.size ≤ q) s.heap ad G H locs) (h0 : ls[0]? = some (.val (.ref b))) (h4 : ls[4]? = some (.val (.int (nI i)))) (k : Nat) (hk : k ≤ 4) (hi : i + 5 ≤ L) (d0 : decode cc pc = .ok (.aload_n 0, 1)) (d1 : decode cc (pc + 1) = .ok (.iload 4, 2)) {z : Int} (d2 : decode cc (pc + 3) = .ok (.iconst z, 1)) (hz : Int32.ofInt z = nI k) (d3 : decode cc (pc + 4) = .ok (.iadd, 1)) (d4 : decode cc (pc + 5) = .ok (.iaload, 1))
    (kk : W p l e R s m args below meth c H locs cells slots Q (F0 m (pc + 6) ls (.int (xs (i + k)) :: rest))) : W p l e R s m args below meth c H locs cells slots Q (F0 m pc ls rest) := by
  refine lv_aload_n hx hb d0 rfl h0 ?_
  refine lv_iload hx hb d1 h4 ?_
  refine lv_iconst (v := nI k) hx hb d2 hz ?_
  refine lv_iadd hx hb d3 ?_
  rw [nI_add]
  refine va_sld hx hb hX hbl (Nat.not_le.mpr hbl) hm.2.2 (nI_in (by omega) (by omega)) d4 ?_
  rw [nI_clamp (by omega)]
  exact kk
end LARG
