/-! the judgement: the walk stands at an abstract frame -/
abbrev XP : Type := (Option XV ⊕ (Nat × Nat)) → XH → Prop
abbrev XK : Type := Nat → List (Option XV) → List XV → XH → Nat → Nat → Prop
abbrev XI : Type := XK → XP → XK
/-- what the tables say, at a state -/
def x_K (G : XG) (U : State) : Prop := va_K G.1 x_cls [] U ∧ (∀ q ty, x_tys[q]? = some ty → ArrOfT U (G.2.1 q) ty ∧ va_RA U (G.2.1 q) ty) ∧ x_KX G U
theorem x_K.moved {G : XG} {u U : State} (hW : u.WarmedH U.vm) (h : x_K G u) : x_K G U :=
  ⟨va_K.moved hW.alike h.1, fun q ty hq => ⟨arrOfT_moved hW.alike (h.2.1 q ty hq).1, (h.2.1 q ty hq).2.moved hW.alike⟩, x_KX_moved hW h.2.2⟩
/-- the class, the code, the locals, the answer's type, the name, the handlers, and the frames and words that the calls need -/
abbrev XM : Type := String × ByteArray × Nat × Option FieldType × String × List (Nat × Nat × Nat × Nat) × Nat × Nat
def x_FE (first : State) (t : State) (L : List Loc) (k n : Nat) : Prop := first.WarmedH t.vm ∧ first.sameButNew ({ t with vm := first.vm } : State) L k n
/-- a method's end -/
def x_Qc (G : XG) (P : XP) (t0 : XT) (S0 : XH) (o : Outcome) (T : State) : Prop := ∃ (t : XT) (S : XH), x_ag t0 t S0 ∧ x_dm S0 S ∧ x_R G t S T.heap ∧
  ((∃ r : Option XV, o = .returned (r.map (xz t)) ∧ (∀ v, r = some v → x_ok S v) ∧ P (.inl r) S) ∨ (∃ k i, o = .threw (t k i) ∧ S k i ≠ none ∧ P (.inr (k, i)) S))
def x_Q (G : XG) (below : List Frame) (P : XP) (t0 : XT) (S0 : XH) (s : State) (mc ms : Nat) : State → Prop := fun T =>
  ∃ o, T.status = .running ∧ Ended T below o ∧ x_Qc G P t0 S0 o T ∧ ∃ L, x_FE s T L mc ms ∧ ∀ q ∈ L, G.2.2.1 ≤ q.base
section XJ
variable {G : XG} {p : Program} {l : Launch} {e : Env} {R : Room} {s : State} {m : MethodId} {args : Array Value} {below : List Frame} {meth : Method} {c : Code} {nL : Nat} {P : XP} {t0 : XT} {S0 : XH}
theorem x_mono {H : Heap} {locs : List Loc} {cells slots : Nat} {Q Q' : State → Prop} {g : JFrame} (k : W p l e R s m args below meth c H locs cells slots Q g) (h : ∀ t, Q t → Q' t) : W p l e R s m args below meth c H locs cells slots Q' g := fun T hT X => by
  obtain ⟨t, a, b⟩ := k T hT X
  exact ⟨t, a, h t b⟩
def x_C (G : XG) (M : XM) (p : Program) (R : Room) (s : State) (m : MethodId) (args : Array Value) (meth : Method) (c : Code) : Prop :=
  p.tables.exec = Jvm.exec ∧ c.code = M.2.1 ∧ c.maxLocals = M.2.2.1 ∧ meth.sig.returnType = M.2.2.2.1 ∧ s.vm.findClass M.1 = some m.cls ∧ (∀ w ∈ x_Wd, w.before args s = true) ∧ x_K G s ∧ meth.locks = false ∧ meth.name = M.2.2.2.2.1 ∧ c.exceptionTable.toList = tableOf M.2.2.2.2.2.1 ∧ M.2.2.2.2.2.2.1 ≤ R.frames ∧ M.2.2.2.2.2.2.2 ≤ R.locals
/-- the walk at an abstract frame: u cells of w slots are left -/
def x_W (G : XG) (p : Program) (l : Launch) (e : Env) (R : Room) (s : State) (m : MethodId) (args : Array Value) (below : List Frame) (meth : Method) (c : Code) (nL : Nat) (P : XP) (t0 : XT) (S0 : XH) : XK := fun pc L st S u w =>
  ∀ (t : XT) (H : Heap) (locs : List Loc) (ls : Array Slot) (cells slots : Nat), x_ag t0 t S0 → x_dm S0 S → x_R G t S H → (∀ q ∈ locs, G.2.2.1 ≤ q.base) → x_L t ls nL L → x_okl S L → x_oks S st → cells + u ≤ R.cells → slots + w ≤ R.slots →
    W p l e R s m args below meth c H locs cells slots (x_Q G below P t0 S0 s R.cells R.slots) (F0 m pc ls (st.map (xz t)))
end XJ
/-- an instruction at pc is sound -/
def XSnd (M : XM) (pc : Nat) (I : XI) : Prop := ∀ (G : XG) (p : Program) (l : Launch) (e : Env) (R : Room) (s : State) (m : MethodId) (args : Array Value) (below : List Frame) (meth : Method) (c : Code) (P : XP) (t0 : XT) (S0 : XH), l.stackTraces = false → x_C G M p R s m args meth c → ∀ K : XK,
  (∀ pc L st S u w, K pc L st S u w → x_W G p l e R s m args below meth c M.2.2.1 P t0 S0 pc L st S u w) → ∀ L st S u w, I K P pc L st S u w → x_W G p l e R s m args below meth c M.2.2.1 P t0 S0 pc L st S u w
abbrev XB : Type := List (Nat × XI)
def x_find (b : XB) (pc : Nat) : Option XI := match b with
  | [] => none
  | q :: r => if q.1 = pc then some q.2 else x_find r pc
/-- the least of all that is closed under the code's steps: what ends well -/
def x_go (b : XB) (P : XP) : XK := fun pc L st S u w => ∀ Z : XK, (∀ pc L st S u w, (∃ I, x_find b pc = some I ∧ I Z P pc L st S u w) → Z pc L st S u w) → Z pc L st S u w
def XMon (I : XI) : Prop := ∀ (K K' : XK) (P P' : XP) (pc : Nat) (L : List (Option XV)) (st : List XV) (S : XH) (u w : Nat), (∀ pc L st S u w, K pc L st S u w → K' pc L st S u w) → (∀ r S, P r S → P' r S) → I K P pc L st S u w → I K' P' pc L st S u w
def x_bmn (b : XB) : Prop := ∀ q ∈ b, XMon q.2
theorem x_bmn.nil : x_bmn [] := fun _ h => by cases h
theorem x_bmn.cons {pc : Nat} {I : XI} {b : XB} (h : XMon I) (h' : x_bmn b) : x_bmn ((pc, I) :: b) := fun q hq => by
  rcases List.mem_cons.mp hq with rfl | hq
  · exact h
  · exact h' q hq
theorem x_bmn.app {b b' : XB} (h : x_bmn b) (h' : x_bmn b') : x_bmn (b ++ b') := fun q hq => by
  rcases List.mem_append.mp hq with hq | hq
  · exact h q hq
  · exact h' q hq
/-- so many steps of the code, then K -/
def x_run (b : XB) (P : XP) (K : XK) : Nat → XK
  | 0 => K
  | n + 1 => fun pc L st S u w => match x_find b pc with
    | none => False
    | some I => I (x_run b P K n) P pc L st S u w
def x_bok (M : XM) (b : XB) : Prop := ∀ q ∈ b, XSnd M q.1 q.2
theorem x_bok.nil {M : XM} : x_bok M [] := fun _ h => by cases h
theorem x_bok.cons {M : XM} {pc : Nat} {I : XI} {b : XB} (h : XSnd M pc I) (h' : x_bok M b) : x_bok M ((pc, I) :: b) := fun q hq => by
  rcases List.mem_cons.mp hq with rfl | hq
  · exact h
  · exact h' q hq
theorem x_bok.app {M : XM} {b b' : XB} (h : x_bok M b) (h' : x_bok M b') : x_bok M (b ++ b') := fun q hq => by
  rcases List.mem_append.mp hq with hq | hq
  · exact h q hq
  · exact h' q hq
theorem x_find_mem {b : XB} {pc : Nat} {I : XI} (h : x_find b pc = some I) : (pc, I) ∈ b := by
  induction b with
  | nil => cases h
  | cons q r ih =>
    unfold x_find at h
    split at h
    · next e =>
      cases h
      rw [← e]
      exact List.mem_cons_self
    · exact List.mem_cons_of_mem _ (ih h)
theorem x_go.step {b : XB} {P : XP} (hb : x_bmn b) {pc : Nat} {I : XI} (hI : x_find b pc = some I) {L : List (Option XV)} {st : List XV} {S : XH} {u w : Nat} (h : I (x_go b P) P pc L st S u w) : x_go b P pc L st S u w := by
  intro Z hZ
  exact hZ _ _ _ _ _ _ ⟨I, hI, hb _ (x_find_mem hI) (x_go b P) Z P P _ _ _ _ _ _ (fun _ _ _ _ _ _ q => q Z hZ) (fun _ _ q => q) h⟩
theorem x_go.run {b : XB} {P : XP} (hb : x_bmn b) : ∀ (n : Nat) {pc : Nat} {L : List (Option XV)} {st : List XV} {S : XH} {u w : Nat}, x_run b P (x_go b P) n pc L st S u w → x_go b P pc L st S u w := by
  intro n
  induction n with
  | zero => intro pc L st S u w h; exact h
  | succ n ih =>
    intro pc L st S u w h
    unfold x_run at h
    split at h
    · exact h.elim
    · next I hI => exact x_go.step hb hI (hb _ (x_find_mem hI) (x_run b P (x_go b P) n) (x_go b P) P P _ _ _ _ _ _ (fun _ _ _ _ _ _ q => ih q) (fun _ _ q => q) h)
theorem x_go.mono {b : XB} {P P' : XP} (hb : x_bmn b) (hP : ∀ r S, P r S → P' r S) {pc : Nat} {L : List (Option XV)} {st : List XV} {S : XH} {u w : Nat} (h : x_go b P pc L st S u w) : x_go b P' pc L st S u w := by
  intro Z hZ
  refine h Z fun pc L st S u w q => ?_
  obtain ⟨I, hI, k⟩ := q
  exact hZ _ _ _ _ _ _ ⟨I, hI, hb _ (x_find_mem hI) Z Z P P' _ _ _ _ _ _ (fun _ _ _ _ _ _ q => q) hP k⟩
theorem x_go.sound {M : XM} {b : XB} (hb : x_bok M b) {G : XG} {p : Program} {l : Launch} {e : Env} {R : Room} {s : State} {m : MethodId} {args : Array Value} {below : List Frame} {meth : Method} {c : Code} {P : XP} {t0 : XT} {S0 : XH} (hl : l.stackTraces = false) (hC : x_C G M p R s m args meth c) {pc : Nat} {L : List (Option XV)} {st : List XV} {S : XH} {u w : Nat}
    (h : x_go b P pc L st S u w) : x_W G p l e R s m args below meth c M.2.2.1 P t0 S0 pc L st S u w := by
  refine h (x_W G p l e R s m args below meth c M.2.2.1 P t0 S0) fun pc L st S u w q => ?_
  obtain ⟨I, hI, k⟩ := q
  exact hb _ (x_find_mem hI) G p l e R s m args below meth c P t0 S0 hl hC _ (fun _ _ _ _ _ _ q => q) L st S u w k
/-- what a method does, its locals nL, its code b -/
def x_do (nL : Nat) (b : XB) (mc ms : Nat) (vs : List XV) (S : XH) (P : XP) : Prop := x_go b P 0 (vs.map some ++ List.replicate (nL - vs.length) none) [] S mc ms
/-- the method's contract, from a heap S at t with the arguments vs -/
def x_Pc (G : XG) (t : XT) (S : XH) (vs : List XV) : Array Value → State → Prop := fun a U => a = (vs.map (xz t)).toArray ∧ x_R G t S U.heap ∧ x_K G U ∧ x_oks S vs ∧ ∀ v ∈ vs, x_c1 v = true
def x_Met (l : Launch) (G : XG) (y : MethodName) (fr lo mc ms : Nat) (t : XT) (S : XH) (vs : List XV) (P : XP) : Prop :=
  MetFree l y (headSpec x_Wd { frames := fr, cells := mc, slots := ms, locals := lo }) (x_Pc G t S vs) (fun _ _ _ _ _ => True) (fun _ st o T => x_Qc G P t S o T ∧ ∃ L, x_FE st T L mc ms ∧ ∀ q ∈ L, G.2.2.1 ≤ q.base)
theorem x_args : ∀ (vs : List Value) (i j : Nat) (w : Value), (∀ v ∈ vs, v.category = 1) → vs[j]? = some w → (i + j, w) ∈ lv_args i vs
  | [], _, _, _, _, h => by simp at h
  | v :: vs, i, 0, w, _, h => by
    simp only [List.getElem?_cons_zero, Option.some.injEq] at h
    subst h
    exact List.mem_cons_self
  | v :: vs, i, j + 1, w, hc, h => by
    have e : lv_args i (v :: vs) = (i, v) :: lv_args (i + 1) vs := by
      show (i, v) :: lv_args (if v.category = 2 then i + 2 else i + 1) vs = _
      rw [if_neg (by rw [hc v List.mem_cons_self]; decide)]
    rw [e]
    have := x_args vs (i + 1) j w (fun v hv => hc v (List.mem_cons_of_mem _ hv)) (by simpa using h)
    rw [show i + (j + 1) = i + 1 + j by omega]
    exact List.mem_cons_of_mem _ this
