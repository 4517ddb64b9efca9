section MCOPY
variable {p : Program} {l : Launch} {e : Env} {R : Room} {s : State} {m : MethodId} {args : Array Value} {below : List Frame} {meth : Method} {c : Code} {H : Heap} {cells slots : Nat} {Q : State → Prop}
variable {cc : ByteArray} {pc : Nat} {ls : Array Slot} {rest : List Value} {D : va_G} {cl : List vw_C} {A : Nat → Prop} {a : Nat} {tys : List (ClassId × FieldType)} {ad : Nat → Nat} {G : mG}
/-- a copy within one array of ints, when nothing has been written yet -/
theorem m_copy0 (hexec : p.tables.exec = Jvm.exec) (hb : c.code = cc) (hml : c.maxLocals = ls.size) {own : String} {index : Nat} (hown : s.vm.findClass own = some m.cls) (hlink : (Cond.methodLink own index arraycopyName).before args s = true) (hnat : (Cond.native arraycopyName).before args s = true) (hstat : (Cond.static arraycopyName).before args s = true) (hini : (Cond.initialized "java/lang/System").before args s = true)
    (hK : va_K D cl tys s) (hm : mS D cl A H ad G H []) (r : Nat) (ea : a = ad r) (t0 : Nat) {cA : ClassId} {n0 : Nat} {f : Nat → Int32} (ha : G r = some (.inl (cA, n0, .inl f))) (ht : tys[t0]? = some (cA, .int))
    {sp dp n : Int32} (h1 : ¬ sp < 0) (h2 : ¬ dp < 0) (h3 : ¬ n < 0) (h4 : sp.toNatClampNeg + n.toNatClampNeg ≤ n0) (h5 : dp.toNatClampNeg + n.toNatClampNeg ≤ n0)
    (hframes : 1 ≤ R.frames) (hlocals : (rest.map fun v => v.category).sum + (nativeFrameWords "java/lang/System" "arraycopy" 5 + 11) ≤ R.locals) (hdg : decode cc pc = .ok (.invokestatic index, 3))
    (kk : ∀ (H1 : Heap) (locs1 : List Loc), mS D cl A H ad (va_up G r (some (.inl (cA, n0, .inl (va_cpy f f sp.toNatClampNeg dp.toNatClampNeg n.toNatClampNeg))))) H1 locs1 → W p l e R s m args below meth c H1 locs1 cells slots Q (F0 m (pc + 3) ls rest)) : W p l e R s m args below meth c H [] cells slots Q (F0 m pc ls (.int n :: .int dp :: .ref a :: .int sp :: .ref a :: rest)) := by
  subst ea
  have hD : va_D (fun q => q = ad r) [(ad r, (.inl (cA, n0, .inl f) : va_E))] := by
    refine ⟨fun i j p q hi hj _ => ?_, fun k q hk => ?_⟩
    · have e1 : i < 1 := (List.getElem?_eq_some_iff.mp hi).1
      have e2 : j < 1 := (List.getElem?_eq_some_iff.mp hj).1
      omega
    · have e1 : k < 1 := (List.getElem?_eq_some_iff.mp hk).1
      rw [show k = 0 by omega] at hk
      cases hk
      rfl
  refine va_copyi hexec hb hml hown hlink hnat hstat hini hK (hm.one ha) hD (va_S.rf (A := fun q => q = ad r) (H0 := H)) 0 0 t0 t0 rfl rfl ht ht rfl h1 h2 h3 h4 h5 (fun i _ => rfl) hframes hlocals hdg (fun H1 locs1 hP1 hD1 hS1 => ?_)
  refine kk H1 locs1 ⟨⟨fun r' e' h' => ?_, fun r1 r2 e1 e2 g1 g2 hh => ?_⟩, fun r' e' h' => ?_, hS1.1, fun q q1 q2 => hS1.2.1 q q1 (fun e9 => q2 (by rw [e9]; exact hm.2.1 r _ ha)), fun q hq => by rw [hS1.2.2 q hq]; exact hm.2.1 r _ ha⟩
  · by_cases hr : r' = r
    · subst hr
      rw [va_up_self] at h'
      cases h'
      exact hP1 0 _ rfl
    · rw [va_up_ne _ _ hr] at h'
      exact (hm.1.1 r' e' h').kept (hS1.2.1 _ (hm.1.1 r' e' h').lt (fun q => hr (hm.1.2 _ _ _ _ h' ha q)))
  · have f9 : ∀ (r' : Nat) (e' : va_E), va_up G r (some (.inl (cA, n0, .inl (va_cpy f f sp.toNatClampNeg dp.toNatClampNeg n.toNatClampNeg)))) r' = some e' → ∃ e'' : va_E, G r' = some e'' := by
      intro r' e' h'
      by_cases hr : r' = r
      · exact ⟨_, by rw [hr]; exact ha⟩
      · rw [va_up_ne _ _ hr] at h'
        exact ⟨e', h'⟩
    obtain ⟨e3, h3⟩ := f9 r1 e1 g1
    obtain ⟨e4, h4⟩ := f9 r2 e2 g2
    exact hm.1.2 _ _ _ _ h3 h4 hh
  · by_cases hr : r' = r
    · rw [hr]; exact hm.2.1 r _ ha
    · rw [va_up_ne _ _ hr] at h'
      exact hm.2.1 r' e' h'
end MCOPY
/-- what fires: the first of four -/
def eFire (rv : Int32) (P0 P1 P2 P3 : Prop) : Prop := (rv = 0 ∧ P0) ∨ (rv = 1 ∧ ¬ P0 ∧ P1) ∨ (rv = 2 ∧ ¬ P0 ∧ ¬ P1 ∧ P2) ∨ (rv = 3 ∧ ¬ P0 ∧ ¬ P1 ∧ ¬ P2 ∧ P3) ∨ (rv = -1 ∧ ¬ P0 ∧ ¬ P1 ∧ ¬ P2 ∧ ¬ P3)
theorem up3 {α : Type} (f : Nat → α) {k j : Nat} (v w u : α) (h : k ≠ j) : va_up (va_up (va_up f k v) j w) k u = va_up (va_up f j w) k u := by
  funext x
  unfold va_up
  by_cases h1 : x = k
  · simp [h1]
  · by_cases h2 : x = j
    · simp [h1, h2, Ne.symm h]
    · simp [h1, h2]
theorem upc {α : Type} (f : Nat → α) {k j : Nat} (v w : α) (h : k ≠ j) : va_up (va_up f k v) j w = va_up (va_up f j w) k v := by
  funext x
  unfold va_up
  by_cases h1 : x = k
  · simp [h1, h]
  · simp [h1]
