/-! THE CLAIM OUT OF ONE WALK OF THE LAW'S BODY. Your part is whole_start (and what it stands on); all else here is the same for every law, but numbers. -/
def R_law : String := "CashLinkLaw"
def lw_P (b : Addr) (xs : List Int32) (args : Array Value) (s : State) : Prop := args = #[.ref b] ∧ s.IntsAt b xs ∧ xs.length ≤ 2048 ∧ (Jvm.Cond.and given_1 narrow_1).before args s = true
def lw_Q (_ : Array Value) (s : State) (o : Outcome) (t : State) : Prop := o = .returned (some (.int 1)) ∧ Framed s o t [] 601024 7293034
def lw_Z (below : List Frame) (a : Array Value) (s : State) : State → Prop := fun t => ∃ o, t.status = .running ∧ Ended t below o ∧ lw_Q a s o t
/-- what holds at the law's entry: the machine, the code, the tables' words (any of lw_tbl by 'hts w (by decide +kernel)'), the script of L ints xs at the cell b, what the Statement gives of the start (any of its parts by flat_of_before) -/
def lw_At (p : Program) (s : State) (m : MethodId) (meth : Method) (c : Code) (b L : Nat) (xs : Nat → Int32) : Prop :=
  p.tables.exec = Jvm.exec ∧ c.code = code ∧ meth.sig.returnType = ret ∧ c.maxLocals = 7 ∧ s.vm.findClass R_law = some m.cls ∧ (∀ w ∈ lw_tbl, w.before #[Value.ref b] s = true) ∧ va_X b L xs s s.heap ∧ b < s.heap.size ∧ meth.locks = false ∧ meth.name = "law" ∧ c.exceptionTable.toList = [] ∧ (Jvm.Cond.and given_1 narrow_1).before #[Value.ref b] s = true
abbrev st_P : XP := fun r _ => r = .inl (some (xv_i 1))
theorem st_forget {s T : State} {L : List Loc} {k n : Nat} (h : s.sameButNew T L k n) (hL : ∀ q ∈ L, s.heap.size ≤ q.base) : s.sameButNew T [] k n := by
  obtain ⟨e1, e2, e3, e4, e5, e6⟩ := h
  refine ⟨e1, e2, e3, e4, e5, fun a cell hc => ?_⟩
  obtain ⟨c', q1, q2, q3, q4⟩ := e6 a cell hc
  refine ⟨c', q1, q2, q3, fun i _ => q4 i fun hm => ?_⟩
  have h1 := hL _ hm
  have h2 := (Array.getElem?_eq_some_iff.mp hc).1
  have h1 : s.heap.size ≤ a := h1
  omega
set_option maxHeartbeats 4000000 in
set_option maxRecDepth 100000 in
theorem law_enter {p : Program} {e : Env} {s : State} {m : MethodId} {below : List Frame} {meth : Method} {c : Code} (l : Launch) (htr : l.stackTraces = false) {b L : Nat} {xs : Nat → Int32} (C0 : lw_At p s m meth c b L xs)
    (hgo : x_go b_L_law st_P 0 [some (xv_r 48 0), none, none, none, none, none, none] [] (st_S L xs) room_1.cells room_1.slots) : W p l e room_1 s m #[Value.ref b] below meth c s.heap [] 0 0 (lw_Z below #[Value.ref b] s) (entryFrame m ([Value.ref b] : List Value).toArray 7) := by
  obtain ⟨hx, hb, hr, hml, hown, hts, hX, hbl, hlocks, hnm, hex, hgv⟩ := id C0
  have hat : st_at b s := ⟨hts, flat_of_before _ hgv⟩
  obtain ⟨D, dA, ro, hK, hR, hro⟩ := st_K hat hX
  have hC : x_C (D, dA, s.heap.size, s.heap, ro, st_S L xs) m_L_law p room_1 s m #[Value.ref b] meth c := ⟨hx, hb, hml, hr, hown, st_words hat, hK, hlocks, hnm, hex, by decide, by decide⟩
  have hvs : ([xv_r 48 0] : List XV).map (xz ro) = [Value.ref b] := by
    show [Value.ref (ro 48 0)] = _
    rw [hro]
  have hE := x_entry (t := ro) (vs := [xv_r 48 0]) (nL := 7) (by decide) (fun v hv => by rw [List.mem_singleton.mp hv]; rfl)
  rw [hvs] at hE
  rw [lg_entry_eq]
  have w := x_go.sound (l := l) (e := e) (below := below) (t0 := ro) (S0 := st_S L xs) k_L_law htr hC hgo ro s.heap [] _ 0 0 x_ag.rf x_dm.rf hR (fun _ q => by cases q) hE ?_ (fun _ q => by cases q) (Nat.le_of_eq (Nat.zero_add _)) (Nat.le_of_eq (Nat.zero_add _))
  · refine x_mono w ?_
    rintro T ⟨o, a1, a2, ⟨t, S, -, -, -, a3⟩, L', ⟨b1, b2⟩, b3⟩
    rcases a3 with ⟨r, rfl, -, hP⟩ | ⟨k, i, -, -, hP⟩
    · cases hP
      exact ⟨_, a1, a2, rfl, ⟨_, rfl⟩, b1, st_forget b2 b3⟩
    · cases hP
  · intro v hv
    simp only [List.mem_cons, List.not_mem_nil, or_false, Option.some.injEq, reduceCtorEq, or_self] at hv
    rw [hv]
    show st_S L xs 48 0 ≠ none
    exact fun q => by cases q
