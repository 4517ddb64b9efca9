def R_law : String := "EdgeWearLaw"
def lw_P (b : Addr) (xs : List Int32) (args : Array Value) (s : State) : Prop := args = #[.ref b] ∧ s.IntsAt b xs ∧ xs.length ≤ 2561 ∧ (Jvm.Cond.and given_1 narrow_1).before args s = true
def lw_Q (_ : Array Value) (s : State) (o : Outcome) (t : State) : Prop := o = .returned (some (.int 1)) ∧ Framed s o t [] 601024 7293000
def lw_Z (below : List Frame) (a : Array Value) (s : State) : State → Prop := fun t => ∃ o, t.status = .running ∧ Ended t below o ∧ lw_Q a s o t
/-- the law's own end, with 1 on the stack, nothing written that was there before, its room as the claim has it -/
theorem lw_ret {p : Program} {l : Launch} {e : Env} {s : State} {m : MethodId} {below : List Frame} {meth : Method} {c : Code} {b : Nat} (hx : p.tables.exec = Jvm.exec) (hb : c.code = code) (hr : meth.sig.returnType = ret) (hlocks : meth.locks = false) {pc : Nat} {H : Heap} {ls : Array Slot} (hdg : decode code pc = .ok (.ireturn, 1)) : W p l e room_1 s m #[Value.ref b] below meth c H [] 601024 7293000 (lw_Z below #[Value.ref b] s) (F0 m pc ls [.int 1]) := by
  intro T hT X
  obtain ⟨fs, hret, hrun, hended, hW, hframe⟩ := X.leave (v := some (.int 1)) (hlocks := hlocks) (fun h => by rw [hr] at h; cases h)
  have hmeth' : T.vm.method? m = some meth := X.method'
  refine ⟨T.setFrames fs, ?_, .returned (some (.int 1)), hrun, hended, rfl, ⟨_, rfl⟩, hW, hframe⟩
  jvm_step X.here [X.here.top, hx, hb, hdg, hmeth', hr, ret, narrow_b1]
  (try refine ⟨rfl, ?_⟩); (try refine ⟨rfl, ?_⟩)
  first | (intro acts; rw [hret _ acts rfl rfl rfl]) | rw [hret _ _ rfl rfl rfl]
  exact Steps.refl _
/-- what holds at the law's entry: the machine, the code, the tables' words (any of lw_tbl by 'hts w (by decide +kernel)'), the script of L ints xs at the cell b, what the Statement gives of the start (any of its parts by flat_of_before) -/
def lw_At (p : Program) (s : State) (m : MethodId) (meth : Method) (c : Code) (b L : Nat) (xs : Nat → Int32) : Prop :=
  p.tables.exec = Jvm.exec ∧ c.code = code ∧ meth.sig.returnType = ret ∧ c.maxLocals = 8 ∧ s.vm.findClass R_law = some m.cls ∧ (∀ w ∈ lw_tbl, w.before #[Value.ref b] s = true) ∧ va_X b L xs s s.heap ∧ b < s.heap.size ∧ meth.locks = false ∧ (Jvm.Cond.and given_1 narrow_1).before #[Value.ref b] s = true
section LROUND
variable {p : Program} {l : Launch} {e : Env} {s : State} {m : MethodId} {b : Nat} {below : List Frame} {meth : Method} {c : Code} {D : va_G} {dA : Nat → ClassId} {sd : Int64} {L : Nat} {xs : Nat → Int32} {n i : Nat}
theorem lw_back {Q : State → Prop} (C0 : lwC p s m meth c D dA b L xs) (ih : lwK p l e s m b below meth c D dA Q sd 33 n (i + 5)) : lwK p l e s m b below meth c D dA Q sd 1511 n i := by
  obtain ⟨⟨hx, hb, hr, hml, hown⟩, hts, ⟨hX, hbl, hL⟩, hlocks, hC⟩ := C0
  intro ad x y f ls H locs hK hl hm
  replace hl : lv_has ls 8 [(0, .ref b), (1, .ref (ad 0)), (2, .ref (ad 1000)), (3, .ref (ad 2000)), (4, .int (nI i))] := hl
  refine lv_iinc (v := nI (i + 5)) (lv' := [(4, .int (nI (i + 5))), (0, .ref b), (1, .ref (ad 0)), (2, .ref (ad 1000)), (3, .ref (ad 2000))]) hx hb d_L_law_1511 hl (k := 4) rfl (by rw [show Int32.ofInt 5 = nI 5 by decide]; exact nI_add i 5) (by decide) rfl (fun ls hl => ?_)
  refine lv_goto (tgt := 33) hx hb d_L_law_1514 (by decide) ?_
  exact ih ad x y f ls H locs hK (lv_sub hl [1, 2, 3, 4, 0] rfl) hm
set_option maxHeartbeats 4000000 in
theorem law_round (hlt : l.stackTraces = false) (C0 : lwC p s m meth c D dA b L xs) (hin : i = 1 + 5 * n) (hn9 : n ≤ 512) (ih : n < 512 → lwK p l e s m b below meth c D dA (lw_Z below #[Value.ref b] s) sd 33 (n + 1) (i + 5)) : lwK p l e s m b below meth c D dA (lw_Z below #[Value.ref b] s) sd 33 n i := by
  have C1 := C0
  obtain ⟨⟨hx, hb, hr, hml, hown⟩, hts, ⟨hX, hbl, hL⟩, hlocks, hC⟩ := C0
  intro ad x y f ls H locs hK hl hm
  refine lv_iload hx hb d_L_law_33 (lv_at hl 4 rfl) ?_
  refine lv_aload_n hx hb d_L_law_35 rfl (lv_at hl 0 rfl) ?_
  refine va_slen hx hb hX hbl (Nat.not_le.mpr hbl) hm.2.2 d_L_law_36 ?_
  refine lv_iconst (v := 5) hx hb d_L_law_37 (by decide) ?_
  refine lv_isub hx hb d_L_law_38 ?_
  refine lv_icmp_gt (tgt := 1517) hx hb d_L_law_39 (by decide) (fun c1 => ?_) (fun c1 => ?_)
  · refine lv_iconst (v := 1) hx hb d_L_law_1517 (by decide) ?_
    refine va_forget hm.2.2.2.2 ?_
    refine W.widen (k := 601024) (n := 7293000) (by omega) (by omega) ?_
    exact lw_ret hx hb hr hlocks d_L_law_1518
  · have hi5 : i + 5 ≤ L := Nat.not_lt.mp (fun h => c1 ((lw_len hL (by omega)).mpr h))
    have hn : n < 512 := by omega
    refine lv_aload_n hx hb d_L_law_42 rfl (lv_at hl 0 rfl) ?_
    refine lv_iload hx hb d_L_law_43 (lv_at hl 4 rfl) ?_
    refine va_sld hx hb hX hbl (Nat.not_le.mpr hbl) hm.2.2 (nI_in (by omega) (by omega)) d_L_law_45 ?_
    refine lv_bipush (v := 31) hx hb d_L_law_46 (by decide) ?_
    refine lv_iand hx hb d_L_law_48 ?_
    obtain ⟨j, hj, ej⟩ := pk_andE (xs (nI i).toNatClampNeg) (m := 31) 5 (by decide)
    rw [ej]
    have kk := lw_back C1 (ih hn)
    by_cases h0 : j = 0
    · subst h0
      refine lv_tableIn (off := 95) (tgt := 144) hx hb d_L_law_49 (by decide) (by decide) (by decide) (by decide) ?_
      exact lc_tool hlt C1 hn hi5 kk ad x y f ls H locs hK hl hm
    by_cases h1 : j = 1
    · subst h1
      refine lv_tableIn (off := 175) (tgt := 224) hx hb d_L_law_49 (by decide) (by decide) (by decide) (by decide) ?_
      exact lc_rate hlt C1 hn hi5 kk ad x y f ls H locs hK hl hm
    by_cases h2 : j = 2
    · subst h2
      refine lv_tableIn (off := 235) (tgt := 284) hx hb d_L_law_49 (by decide) (by decide) (by decide) (by decide) ?_
      exact lc_limit hlt C1 hn hi5 kk ad x y f ls H locs hK hl hm
    by_cases h3 : j = 3
    · subst h3
      refine lv_tableIn (off := 315) (tgt := 364) hx hb d_L_law_49 (by decide) (by decide) (by decide) (by decide) ?_
      exact lc_use hlt C1 hn hi5 kk ad x y f ls H locs hK hl hm
    by_cases h4 : j = 4
    · subst h4
      refine lv_tableIn (off := 414) (tgt := 463) hx hb d_L_law_49 (by decide) (by decide) (by decide) (by decide) ?_
      exact lc_grind hlt C1 hn hi5 kk ad x y f ls H locs hK hl hm
    by_cases h5 : j = 5
    · subst h5
      refine lv_tableIn (off := 489) (tgt := 538) hx hb d_L_law_49 (by decide) (by decide) (by decide) (by decide) ?_
      exact lc_about hlt C1 hn hi5 kk ad x y f ls H locs hK hl hm
    by_cases h6 : j = 6
    · subst h6
      refine lv_tableIn (off := 556) (tgt := 605) hx hb d_L_law_49 (by decide) (by decide) (by decide) (by decide) ?_
      exact lc_spare hlt C1 hn hi5 kk ad x y f ls H locs hK hl hm
    by_cases h7 : j = 7
    · subst h7
      refine lv_tableIn (off := 612) (tgt := 661) hx hb d_L_law_49 (by decide) (by decide) (by decide) (by decide) ?_
      exact lc_take hlt C1 hn hi5 kk ad x y f ls H locs hK hl hm
    by_cases h8 : j = 8
    · subst h8
      refine lv_tableIn (off := 668) (tgt := 717) hx hb d_L_law_49 (by decide) (by decide) (by decide) (by decide) ?_
      exact lc_bring hlt C1 hn hi5 kk ad x y f ls H locs hK hl hm
    by_cases h9 : j = 9
    · subst h9
      refine lv_tableIn (off := 731) (tgt := 780) hx hb d_L_law_49 (by decide) (by decide) (by decide) (by decide) ?_
      exact lc_life hlt C1 hn hi5 kk ad x y f ls H locs hK hl hm
    by_cases h10 : j = 10
    · subst h10
      refine lv_tableIn (off := 799) (tgt := 848) hx hb d_L_law_49 (by decide) (by decide) (by decide) (by decide) ?_
      exact lc_cost hlt C1 hn hi5 kk ad x y f ls H locs hK hl hm
    by_cases h11 : j = 11
    · subst h11
      refine lv_tableIn (off := 859) (tgt := 908) hx hb d_L_law_49 (by decide) (by decide) (by decide) (by decide) ?_
      exact lc_change hlt C1 hn hi5 kk ad x y f ls H locs hK hl hm
    by_cases h12 : j = 12
    · subst h12
      refine lv_tableIn (off := 915) (tgt := 964) hx hb d_L_law_49 (by decide) (by decide) (by decide) (by decide) ?_
      exact lc_changed hlt C1 hn hi5 kk ad x y f ls H locs hK hl hm
    by_cases h13 : j = 13
    · subst h13
      refine lv_tableIn (off := 994) (tgt := 1043) hx hb d_L_law_49 (by decide) (by decide) (by decide) (by decide) ?_
      exact lc_breaks hlt C1 hn hi5 kk ad x y f ls H locs hK hl hm
    by_cases h14 : j = 14
    · subst h14
      refine lv_tableIn (off := 1062) (tgt := 1111) hx hb d_L_law_49 (by decide) (by decide) (by decide) (by decide) ?_
      exact lc_rules hlt C1 hn hi5 kk ad x y f ls H locs hK hl hm
    by_cases h15 : j = 15
    · subst h15
      refine lv_tableIn (off := 1134) (tgt := 1183) hx hb d_L_law_49 (by decide) (by decide) (by decide) (by decide) ?_
      exact lc_power hlt C1 hn hi5 kk ad x y f ls H locs hK hl hm
    by_cases h16 : j = 16
    · subst h16
      refine lv_tableIn (off := 1214) (tgt := 1263) hx hb d_L_law_49 (by decide) (by decide) (by decide) (by decide) ?_
      exact lc_order hlt C1 hn hi5 kk ad x y f ls H locs hK hl hm
    by_cases h17 : j = 17
    · subst h17
      refine lv_tableIn (off := 1289) (tgt := 1338) hx hb d_L_law_49 (by decide) (by decide) (by decide) (by decide) ?_
      exact lc_joined hlt C1 hn hi5 kk ad x y f ls H locs hK hl hm
    by_cases h18 : j = 18
    · subst h18
      refine lv_tableIn (off := 1357) (tgt := 1406) hx hb d_L_law_49 (by decide) (by decide) (by decide) (by decide) ?_
      exact lc_open hlt C1 hn hi5 kk ad x y f ls H locs hK hl hm
    by_cases h19 : j = 19
    · subst h19
      refine lv_tableIn (off := 1370) (tgt := 1419) hx hb d_L_law_49 (by decide) (by decide) (by decide) (by decide) ?_
      exact lc_chip hlt C1 hn hi5 kk ad x y f ls H locs hK hl hm
    refine lv_tableOut (tgt := 1511) hx hb d_L_law_49 (Or.inr (by rw [nI_toInt (by omega)]; omega)) (by decide) ?_
    refine W.widen (k := 36 + 4 * (n + 1)) (n := 1300 + 42 * (n + 1)) (by omega) (by omega) ?_
    exact kk ad x y f ls H locs hK.mono hl hm
theorem law_loop (hlt : l.stackTraces = false) (C0 : lwC p s m meth c D dA b L xs) : ∀ (q n i : Nat), q + n = 512 → i = 1 + 5 * n → lwK p l e s m b below meth c D dA (lw_Z below #[Value.ref b] s) sd 33 n i := by
  intro q
  induction q with
  | zero =>
    intro n i h1 h2
    exact law_round hlt C0 h2 (by omega) (fun h => by omega)
  | succ q ih =>
    intro n i h1 h2
    exact law_round hlt C0 h2 (by omega) (fun h => ih (n + 1) (i + 5) (by omega) (by omega))
end LROUND
