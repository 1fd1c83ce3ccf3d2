/-! a method's contract out of its run; calls that return or throw -/
/-- the tables name the method y with this code -/
def x_Is (y : MethodName) (M : XM) : Prop := ∀ (args : Array Value) (s : State), (∀ w ∈ x_Wd, w.before args s = true) → ∃ (m : MethodId) (meth : Method) (c : Code), s.methodNamed? y = some m ∧ s.vm.method? m = some meth ∧ meth.code = some c ∧ c.code = M.2.1 ∧ c.maxLocals = M.2.2.1 ∧ meth.sig.returnType = M.2.2.2.1 ∧ meth.locks = false ∧ c.exceptionTable.toList = tableOf M.2.2.2.2.2.1 ∧ parseMethodDescriptor y.desc = some meth.sig
theorem x_is_code {y : MethodName} {cc : ByteArray} {nL : Nat} {ret : Option FieldType} {nm own : String} {fr lo : Nat} (h : Cond.code y cc nL ret ∈ x_Wd) : x_Is y (own, cc, nL, ret, nm, [], fr, lo) := by
  intro args s hts
  have h1 := hts _ h
  obtain ⟨m, hn⟩ := Cond.code_named h1
  obtain ⟨meth, c, q1, q2, q3, q4, q5, q6, q7, q8⟩ := Cond.code_spec hn h1
  refine ⟨m, meth, c, hn, q1, q2, q3, q4, q5, q6, ?_, q8⟩
  show c.exceptionTable.toList = []
  have := Array.isEmpty_iff.mp q7
  rw [this]
theorem x_is_with {y : MethodName} {cc : ByteArray} {nL : Nat} {ret : Option FieldType} {nm own : String} {hs : List (Nat × Nat × Nat × Nat)} {fr lo : Nat} (h : Cond.codeWith y cc nL ret hs ∈ x_Wd) : x_Is y (own, cc, nL, ret, nm, hs, fr, lo) := by
  intro args s hts
  obtain ⟨m, meth, c, q0, q1, q2, q3, q4, q5, q6, q7, q8⟩ := Cond.codeWith_spec (hts _ h)
  refine ⟨m, meth, c, q0, q1, q2, q3, q4, q6, q7, ?_, q8⟩
  show c.exceptionTable.toList = tableOf hs
  rw [← q5]
  exact (table_eq _).symm
theorem x_sl_len : ∀ vs : List Value, (∀ v ∈ vs, v.category = 1) → (lg_sl vs).length = vs.length
  | [], _ => rfl
  | v :: vs, h => by
    have e : lg_sl (v :: vs) = .val v :: lg_sl vs := by
      show (if v.category = 2 then [Slot.val v, .second] else [.val v]) ++ lg_sl vs = _
      rw [if_neg (by rw [h v List.mem_cons_self]; decide)]
      rfl
    rw [e, List.length_cons, List.length_cons, x_sl_len vs fun v hv => h v (List.mem_cons_of_mem _ hv)]
theorem x_entry {t : XT} {vs : List XV} {nL : Nat} (hn : vs.length ≤ nL) (hc : ∀ v ∈ vs, x_c1 v = true) :
    x_L t ((lg_sl (vs.map (xz t)) ++ List.replicate (nL - (lg_sl (vs.map (xz t))).length) Slot.unset).toArray) nL (vs.map some ++ List.replicate (nL - vs.length) none) := by
  have hcat : ∀ v ∈ vs.map (xz t), v.category = 1 := fun v hv => by
    obtain ⟨w, hw, rfl⟩ := List.mem_map.mp hv
    exact x_c1_cat (hc w hw)
  have hh := lv_entry (vs.map (xz t)) (n := nL) (by rw [x_sl_len _ hcat, List.length_map]; exact hn)
  refine ⟨⟨hh.1, hh.2.1, ?_⟩, ?_⟩
  · rintro ⟨j, w⟩ hq
    obtain ⟨v, hv, rfl⟩ := x_pl_mem.mp hq
    refine hh.2.2 (j, xz t v) ?_
    have hj : vs[j]? = some v := by
      rw [List.getElem?_append] at hv
      split at hv
      · rw [List.getElem?_map] at hv
        cases hx : vs[j]? with
        | none => rw [hx] at hv; cases hv
        | some x => rw [hx] at hv; cases hv; rfl
      · rw [List.getElem?_replicate] at hv
        split at hv <;> cases hv
    have := x_args (vs.map (xz t)) 0 j (xz t v) hcat (by rw [List.getElem?_map, hj]; rfl)
    rw [Nat.zero_add] at this
    exact this
  · intro v hv
    rcases List.mem_append.mp hv with h | h
    · obtain ⟨w, hw, e⟩ := List.mem_map.mp h
      cases e
      exact hc _ hw
    · cases List.eq_of_mem_replicate h
theorem x_met_of {l : Launch} {G : XG} {y : MethodName} {M : XM} {b : XB} {mc ms : Nat} {t : XT} {S : XH} {vs : List XV} {P : XP} (hl : l.stackTraces = false) (hy : plainName y.cls = true) (h1 : M.1 = y.cls) (h2 : M.2.2.2.2.1 = y.name) (his : x_Is y M) (hb : x_bok M b) (hlen : vs.length ≤ M.2.2.1) (h : x_do M.2.2.1 b mc ms vs S P) :
    x_Met l G y M.2.2.2.2.2.2.1 M.2.2.2.2.2.2.2 mc ms t S vs P := by
  refine MetFree.of_bodyS (code := M.2.1) (maxLocals := M.2.2.1) (ret := M.2.2.2.1) hy ?_ ?_
  · intro args s m hpre hn
    obtain ⟨m', meth, c, q0, q1, q2, q3, q4, q5, q6, -⟩ := his args s (atoms_spec (ws := x_Wd) hpre)
    cases hn.symm.trans q0
    exact ⟨meth, c, q1, q2, q3, q4, q5, q6⟩
  · intro p e s m args below meth c s₁ B hml hP _
    obtain ⟨rfl, hR, hK, hok, hc1⟩ := hP
    have hts := atoms_spec (ws := x_Wd) B.pre
    obtain ⟨m', meth', c', q0, q1, q2, q3, q4, q5, q6, q7, -⟩ := his _ s hts
    cases B.named.symm.trans q0
    cases B.method.symm.trans q1
    have X := Stand.of_body B
    cases X.code.symm.trans q2
    have hC : x_C G M p { frames := M.2.2.2.2.2.2.1, cells := mc, slots := ms, locals := M.2.2.2.2.2.2.2 } s m (vs.map (xz t)).toArray meth c :=
      ⟨B.exec, B.bytes, hml, B.returns, by rw [h1]; exact findClass_of_methodNamed B.named, hts, hK, B.notSynchronized, by rw [h2]; exact (name_of_methodNamed B.named B.method).1, q7, Nat.le_refl _, Nat.le_refl _⟩
    have hh0 : s₁.heap = s.heap := by rw [B.state]; rfl
    have w := x_go.sound (l := l) (e := e) (below := below) (t0 := t) (S0 := S) hb hl hC h t s.heap [] _ 0 0 x_ag.rf x_dm.rf hR (fun _ h => by cases h) (x_entry hlen hc1) ?_ (fun _ h => by cases h) (by simp) (by simp) s₁ hh0 X
    · rw [lg_entry_eq]
      obtain ⟨T, a1, o, b1, b2, b3, b4⟩ := w
      exact ⟨T, o, a1, b1, b2, b3, b4⟩
    · intro v hv
      rcases List.mem_append.mp hv with h | h
      · obtain ⟨w, hw, e⟩ := List.mem_map.mp h
        cases e
        exact hok _ hw
      · cases List.eq_of_mem_replicate h
section XC1
variable {G : XG} {p : Program} {l : Launch} {e : Env} {R : Room} {s : State} {m : MethodId} {args : Array Value} {below : List Frame} {meth : Method} {c : Code} {T : State} {locs : List Loc} {cells slots : Nat}
/-- the callee goes, and comes back, or throws -/
theorem x_back (X : Stand p l e R s m args below meth c T locs cells slots) {y : MethodName} {M : XM} {mc ms : Nat} {t : XT} {S : XH} {vs : List XV} {P : XP} (hM : x_Met l G y M.2.2.2.2.2.2.1 M.2.2.2.2.2.2.2 mc ms t S vs P) (his : x_Is y M)
    (hts : ∀ w ∈ x_Wd, w.before args s = true) (hini : (Cond.initialized y.cls).before args s = true) {g : JFrame} (hg : g.method = m) (hsize : g.locals.size = c.maxLocals) {ig : Instr} {len : Nat} (hdg : decode c.code g.pc = .ok (ig, len)) (hW : 2 * g.monitorRoom + (g.stack.map fun v => v.category).sum ≤ 8)
    {mk : MethodId} (hn : T.methodNamed? y = some mk) (hfr : M.2.2.2.2.2.2.1 + 1 ≤ R.frames) (hlo : 8 + (M.2.2.1 + 11) + M.2.2.2.2.2.2.2 ≤ R.locals) (hcells : cells + mc ≤ R.cells) (hslots : slots + ms ≤ R.slots) (hR : x_R G t S T.heap) (hK : x_K G T) (hok : x_oks S vs) (hc1 : ∀ v ∈ vs, x_c1 v = true) :
    ∃ (o : Outcome) (T' : State) (L : List Loc), Stand p l e R s m args below meth c T' (locs ++ L) (cells + mc) (slots + ms) ∧ (∀ q ∈ L, G.2.2.1 ≤ q.base) ∧ x_Qc G P t S o T' ∧
      match o with
      | .returned v => Steps p.tables e below (doInvoke e (T.setTop g) [] mk (vs.map (xz t)).toArray).1 (T'.setTop { g with pc := g.pc + len, stack := v.toList ++ g.stack })
      | .threw x => Steps p.tables e below (doInvoke e (T.setTop g) [] mk (vs.map (xz t)).toArray).1 ((T'.setTop g).pushFrame (.throwing x)) := by
  have htsT : ∀ w ∈ x_Wd, w.before (vs.map (xz t)).toArray T = true := fun w hw => x_wat X.warmed (x_good w hw) (hts w hw)
  obtain ⟨mk', methY, cY, hnY, hmY, hcY, -, hlY, -, -, -, -⟩ := his (vs.map (xz t)).toArray T htsT
  cases hn.symm.trans hnY
  obtain ⟨kY, hkY, -⟩ := className_of_methodNamed hn
  have hiniT : (Cond.initialized y.cls).before args T = true := word_at X.warmed (Or.inl (by first | rfl | simp [Cond.onTables, Cond.keeps, Cond.steady])) hini
  have hinitY : kY.init = .initialized := Cond.initialized_spec (findClass_of_methodNamed hn) hkY hiniT
  have h : At T g.method c below := by rw [hg]; exact X.here
  have happ : (headSpec x_Wd { frames := M.2.2.2.2.2.2.1, cells := mc, slots := ms, locals := M.2.2.2.2.2.2.2 }).appliesLoose y e.platform (T.calling g mk (vs.map (xz t)).toArray) = true :=
    Spec.appliesLoose_calling (g := g) h hdg hn hkY hinitY
      (X.room_calling (g := g) (R' := { frames := M.2.2.2.2.2.2.1, cells := mc, slots := ms, locals := M.2.2.2.2.2.2.2 }) hsize hmY hcY hfr (by rw [hlY]; show _ + _ + M.2.2.2.2.2.2.2 ≤ _; omega) hcells hslots) (atoms_intro htsT)
  obtain ⟨mid, hmid⟩ := h.above
  have hfr2 : (T.setTop g).frames = (.java g :: mid) ++ below := by rw [State.frames_setTop' g h.top, hmid]; rfl
  obtain ⟨o, s₂, hsteps, -, hend, hq, L, hfe, hL⟩ := Steps.callFree hM p X.admits X.cas X.clock (acts := []) hfr2 happ ⟨rfl, hR, x_K.moved (u := T) (U := T.calling g mk (vs.map (xz t)).toArray) (State.WarmedH.refl T) hK, hok, hc1⟩ trivial
  rw [State.frames_setTop' g h.top, X.tail] at hend
  cases o with
  | returned v =>
    obtain ⟨T', X', -, -, ht⟩ := X.outOf hg hdg (mk := mk) (a := (vs.map (xz t)).toArray) hend hfe.1 hfe.2
    have hh : T'.heap = s₂.heap := by rw [ht]; simp [State.setFrames, State.setTop, State.modifyTopJava]
    refine ⟨.returned v, T', L, X', hL, ?_, ?_⟩
    · obtain ⟨t', S', a1, a2, a3, a4⟩ := hq
      exact ⟨t', S', a1, a2, by rw [hh]; exact a3, a4⟩
    · dsimp only
      rw [← ht]
      exact hsteps
  | threw x =>
    obtain ⟨T', X', -, -, ht⟩ := X.outOfThrown hg (mk := mk) (a := (vs.map (xz t)).toArray) hend hfe.1 hfe.2
    have hh : T'.heap = s₂.heap := by rw [ht]; simp [State.pushFrame, State.setFrames, State.setTop, State.modifyTopJava]
    refine ⟨.threw x, T', L, X', hL, ?_, ?_⟩
    · obtain ⟨t', S', a1, a2, a3, a4⟩ := hq
      exact ⟨t', S', a1, a2, by rw [hh]; exact a3, a4⟩
    · dsimp only
      rw [← ht]
      exact hsteps
end XC1
