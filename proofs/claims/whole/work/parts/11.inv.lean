/-! calls as steps; throwing; catching -/
abbrev XMeth : Type := Nat → Nat → List XV → XH → XP → Prop
/-- a method's run gives its contract -/
def x_Snd (y : MethodName) (My : XM) (Y : XMeth) : Prop := ∀ (l : Launch) (G : XG) (t : XT) (S : XH) (vs : List XV) (mc ms : Nat) (P : XP), l.stackTraces = false → vs.length ≤ My.2.2.1 → Y mc ms vs S P → x_Met l G y My.2.2.2.2.2.2.1 My.2.2.2.2.2.2.2 mc ms t S vs P
theorem x_snd_of {y : MethodName} {My : XM} {b : XB} (hy : plainName y.cls = true) (h1 : My.1 = y.cls) (h2 : My.2.2.2.2.1 = y.name) (his : x_Is y My) (hb : x_bok My b) : x_Snd y My (x_do My.2.2.1 b) := fun _ _ _ _ _ _ _ _ ht hl h => x_met_of ht hy h1 h2 his hb hl h
def x_catch (hs : List (Nat × Nat)) (ci : Nat) : Option Nat := match hs with
  | [] => none
  | q :: r => if q.1 = ci then some q.2 else x_catch r ci
/-- what comes behind a call -/
def x_aft (K : XK) (P : XP) (hs : List (Nat × Nat)) (pc : Nat) (L : List (Option XV)) (rest : List XV) (u w : Nat) : XP := fun r S => match r with
  | .inl v => K pc L (v.toList ++ rest) S u w
  | .inr q => match hs with
    | [] => P (.inr q) S
    | a :: b => ∃ ci fs h, S q.1 q.2 = some (.inl (ci, fs)) ∧ q.1 < 48 ∧ x_catch (a :: b) ci = some h ∧ K h L [xv_r q.1 q.2] S u w
def X_invS (Y : XMeth) (n : Nat) (hs : List (Nat × Nat)) : XI := fun K P pc L st S u w =>
  n ≤ st.length ∧ (st.take n).all x_c1 = true ∧ x_cs (st.drop n) ≤ 8 ∧ ∃ mc ms, mc ≤ u ∧ ms ≤ w ∧ Y mc ms (st.take n).reverse S (x_aft K P hs (pc + 3) L (st.drop n) (u - mc) (w - ms))
def X_invI (Y : XMeth) (n : Nat) (hs : List (Nat × Nat)) : XI := fun K P pc L st S u w => match st.drop n with
  | .inr (.inr (some q)) :: rest => (st.take n).all x_c1 = true ∧ x_cs rest ≤ 8 ∧ ∃ mc ms, mc ≤ u ∧ ms ≤ w ∧ Y mc ms (xv_r q.1 q.2 :: (st.take n).reverse) S (x_aft K P hs (pc + 3) L rest (u - mc) (w - ms))
  | _ => False
def X_invV (ci : Nat) (Y : XMeth) (n : Nat) (hs : List (Nat × Nat)) : XI := fun K P pc L st S u w => match st.drop n with
  | .inr (.inr (some q)) :: rest => q.1 < 48 ∧ (∃ fs, S q.1 q.2 = some (.inl (ci, fs))) ∧ (st.take n).all x_c1 = true ∧ x_cs rest ≤ 8 ∧ ∃ mc ms, mc ≤ u ∧ ms ≤ w ∧ Y mc ms (xv_r q.1 q.2 :: (st.take n).reverse) S (x_aft K P hs (pc + 3) L rest (u - mc) (w - ms))
  | _ => False
/-- Object.<init> -/
def X_obj : XI := fun K _ pc L st S u w => match st with
  | .inr (.inr (some _)) :: r => x_cs r + 12 ≤ 20 ∧ K (pc + 3) L r S u w
  | _ => False
section XFH
variable {Q : Handler → Pre} {E : CtlPost} {e : Env} {d : Bool} {acts : List Action} {s : State} {f : JFrame} {a : Addr}
/-- an entry's class is linked now, if it wasn't; it takes the object, or not -/
theorem x_fh {x : ExceptionTableEntry} {r : List ExceptionTableEntry} {k : ClassId} {cell : Cell} (hx : covers x f.pc = true) (h0 : x.catchType ≠ 0) (hl : s.vm.ClassLinks e.platform f.method.cls x.catchType k) (hcell : s.heap[a]? = some cell) (hobj : ∀ k, cell.vm ≠ .statics k)
    (hk : ∃ k, s.vm.classes[cell.cls]? = some k) (hc : ∃ z, s.vm.classes[k]? = some z) :
    wp (findHandler.go f a (x :: r)) Q E e d acts s ↔ if s.vm.assignable cell.cls k = true then Q (.found x.handlerPc) d acts (s.setVm (s.vm.noted f.method.cls x.catchType (.cls k))) else wp (findHandler.go f a r) Q E e d acts (s.setVm (s.vm.noted f.method.cls x.catchType (.cls k))) := by
  simp only [covers] at hx
  obtain ⟨ha, ht⟩ := (resolveClass_links e.toSetting hl).op (op := VmOp.resolveClass f.method.cls x.catchType) rfl
  have hal : s.vm.Alike (s.vm.noted f.method.cls x.catchType (.cls k)) := (Vm.Alike.refl s.vm).noted _ _ _
  obtain ⟨k1, hk1⟩ := hk
  obtain ⟨k2, hk2⟩ := hc
  obtain ⟨z1, hz1, -⟩ := hal.2.2 _ _ hk1
  obtain ⟨z2, hz2, -⟩ := hal.2.2 _ _ hk2
  by_cases hf : s.vm.assignable cell.cls k = true
  · have hf' : (s.vm.noted f.method.cls x.catchType (.cls k)).assignable cell.cls k = true := by rw [hal.assignable]; exact hf
    rw [if_pos hf]
    simp [findHandler.go, hx, h0, ha, ht, hcell, hobj, hz1, hz2, hf', VmOp.dirties, VmOp.acts]
  · have hf0 : s.vm.assignable cell.cls k = false := by simpa using hf
    have hf' : (s.vm.noted f.method.cls x.catchType (.cls k)).assignable cell.cls k = false := by rw [hal.assignable]; exact hf0
    rw [if_neg hf]
    simp [findHandler.go, hx, h0, ha, ht, hcell, hobj, hz1, hz2, hf', VmOp.dirties, VmOp.acts]
end XFH
/-- the search's end, and the tables that it leaves -/
def x_FT (e : Env) (s : State) (f : JFrame) (a : Addr) (h : Handler) (vm' : Vm) : Prop := ∀ (Q : Handler → Pre) (E : CtlPost) (d : Bool) (acts : List Action), wp (findHandler f a) Q E e d acts s ↔ Q h d acts (s.setVm vm')
/-- an entry that lets the class pass -/
def x_miss (pl : Platform) (s : State) (d : ClassId) (pc : Nat) (th : ClassId) (y : ExceptionTableEntry) : Prop := covers y pc = false ∨ (y.catchType ≠ 0 ∧ ∃ k, s.vm.ClassLinks pl d y.catchType k ∧ s.vm.assignable th k = false)
theorem x_search {e : Env} {s0 : State} {f : JFrame} {a : Addr} {cell : Cell} (hobj : ∀ k, cell.vm ≠ .statics k) (hk0 : ∃ k, s0.vm.classes[cell.cls]? = some k) {x : ExceptionTableEntry} (rest : List ExceptionTableEntry) (hx : covers x f.pc = true) (h0 : x.catchType ≠ 0) {k : ClassId} (hl : s0.vm.ClassLinks e.platform f.method.cls x.catchType k) (hfit : s0.vm.assignable cell.cls k = true) :
    ∀ (pre : List ExceptionTableEntry) (S : State), s0.WarmedH S.vm → S.heap[a]? = some cell → (∀ y ∈ pre, x_miss e.platform s0 f.method.cls f.pc cell.cls y) →
      ∃ vm', s0.WarmedH vm' ∧ ∀ (Q : Handler → Pre) (E : CtlPost) (d : Bool) (acts : List Action), wp (findHandler.go f a (pre ++ x :: rest)) Q E e d acts S ↔ Q (.found x.handlerPc) d acts (S.setVm vm') := by
  obtain ⟨k0, hk0⟩ := hk0
  intro pre
  induction pre with
  | nil =>
    intro S hW hcell _
    obtain ⟨z0, hz0, -⟩ := hW.alike.2.2 _ _ hk0
    obtain ⟨dk, _, _, kt, hd, _, _, _, _, hkt, _, hopen⟩ := hl.here
    obtain ⟨kt', hkt', -⟩ := hW.alike.2.2 _ _ hkt
    refine ⟨_, hW.noted hd hopen (State.rightAt_cls hl), fun Q E d acts => ?_⟩
    rw [List.nil_append, x_fh hx h0 (hW.classLinks hl) hcell hobj ⟨z0, hz0⟩ ⟨kt', hkt'⟩, if_pos (by rw [hW.alike.assignable]; exact hfit)]
  | cons y ys ih =>
    intro S hW hcell hpass
    have hr : ∀ z ∈ ys, x_miss e.platform s0 f.method.cls f.pc cell.cls z := fun z hz => hpass z (List.mem_cons_of_mem _ hz)
    by_cases hcov : covers y f.pc = true
    · rcases hpass y List.mem_cons_self with q | ⟨hy0, ky, hly, hno⟩
      · rw [q] at hcov
        cases hcov
      · obtain ⟨z0, hz0, -⟩ := hW.alike.2.2 _ _ hk0
        obtain ⟨dk, _, _, kt, hd, _, _, _, _, hkt, _, hopen⟩ := hly.here
        obtain ⟨kt', hkt', -⟩ := hW.alike.2.2 _ _ hkt
        obtain ⟨vm', hW', hq⟩ := ih (S.setVm (S.vm.noted f.method.cls y.catchType (.cls ky))) (hW.noted hd hopen (State.rightAt_cls hly)) hcell hr
        refine ⟨vm', hW', fun Q E d acts => ?_⟩
        rw [List.cons_append, x_fh hcov hy0 (hW.classLinks hly) hcell hobj ⟨z0, hz0⟩ ⟨kt', hkt'⟩, if_neg (by rw [hW.alike.assignable, hno]; decide)]
        exact hq Q E d acts
    · obtain ⟨vm', hW', hq⟩ := ih S hW hcell hr
      refine ⟨vm', hW', fun Q E d acts => ?_⟩
      rw [List.cons_append, W.findHandler_go_skip (by simpa using hcov)]
      exact hq Q E d acts
theorem x_caughtS {e : Env} {s : State} {a : Addr} {f : JFrame} {r : List Frame} {pc : Nat} {vm' : Vm} (hfind : x_FT e s f a (.found pc) vm') : (stepThrowing e s a (.java f :: r)).Is ((s.setVm vm').setFrames (.java { f with pc := pc, stack := [.ref a] } :: r)) [] := by
  simp only [stepThrowing, searchFrame, vmDo]
  generalize hr : Sem.go _ e false [] s = res
  obtain ⟨as, rfl, ha⟩ := Sem.eq_ok_of hr (a := Handler.found pc) (s' := s.setVm vm') (acts' := []) (by simp [hfind _ _ _ _])
  exact ⟨rfl, ha⟩
theorem x_frsv (u : State) (vm' : Vm) (F F' : List Frame) : ((u.setFrames F).setVm vm').setFrames F' = (u.setVm vm').setFrames F' := by
  have h1 : (u.setFrames F).setVm vm' = (u.setVm vm').setFrames F := rfl
  rw [h1, State.setFrames_setFrames]
theorem x_caught {tb : Tables} {e : Env} {s target : State} {g : JFrame} {c : Code} {below : List Frame} {a : Addr} (h : At s g.method c below) {pc : Nat} {vm' : Vm} (hfind : x_FT e ((s.setTop g).pushFrame (.throwing a)) g a (.found pc) vm') (hrest : Steps tb e below ((s.setVm vm').setTop { g with pc := pc, stack := [.ref a] }) target) :
    Steps tb e below ((s.setTop g).pushFrame (.throwing a)) target := by
  obtain ⟨hgo, hw⟩ := h.throwing a
  refine Steps.head hgo hw ?_
  rw [stepThread_throwing (frames_entered h.top _), (x_caughtS (s := (s.setTop g).pushFrame (.throwing a)) hfind).1]
  obtain ⟨g0, hg⟩ := Option.isSome_iff_exists.mp h.top
  obtain ⟨r, hr⟩ := State.topJava?_eq_some.mp hg
  have hr' : (s.setVm vm').frames = .java g0 :: r := hr
  rw [State.setTop_of_frames _ hr'] at hrest
  rw [hr, List.tail_cons, State.pushFrame, x_frsv, State.setTop_of_frames _ hr, x_frsv]
  exact hrest
/-- the handlers of M at pc catch as hs says, by the tables' words -/
def x_hok (M : XM) (pc : Nat) (hs : List (Nat × Nat)) : Prop := match hs with
  | [] => (tableOf M.2.2.2.2.2.1).all (fun x => !covers x pc) = true
  | a :: b => ∀ ci h, x_catch (a :: b) ci = some h → ∃ (C : String) (T : u_T) (N : Nat) (pre : List ExceptionTableEntry) (x : ExceptionTableEntry) (rest : List ExceptionTableEntry), x_cls[ci]? = some (C, T, N) ∧ tableOf M.2.2.2.2.2.1 = pre ++ x :: rest ∧ x.handlerPc = h ∧ covers x pc = true ∧ x.catchType ≠ 0 ∧ Cond.classLink M.1 x.catchType C ∈ x_Wd ∧
      ∀ y ∈ pre, covers y pc = false ∨ (y.catchType ≠ 0 ∧ ∃ nm, Cond.classLink M.1 y.catchType nm ∈ x_Wd ∧ Cond.not (.castable C nm) ∈ x_Wd)
section XCL
variable {G : XG} {p : Program} {l : Launch} {e : Env} {R : Room} {s : State} {m : MethodId} {args : Array Value} {below : List Frame} {meth : Method} {c : Code} {M : XM} {pc : Nat} {P : XP} {t0 t : XT} {S0 S : XH} {H : Heap} {locs : List Loc} {cells slots u w : Nat} {ls : Array Slot} {L : List (Option XV)} {K : XK}
theorem x_catchW {T : State} (X : Stand p l e R s m args below meth c T locs cells slots) (hC : x_C G M p R s m args meth c) {hs : List (Nat × Nat)} {ci h : Nat} {fs : List XV} {k i : Nat} {a : Nat × Nat} {b : List (Nat × Nat)} (hhs : hs = a :: b) (hh : x_hok M pc hs) (hct : x_catch hs ci = some h) (hR : x_R G t S T.heap) (h48 : k < 48) (hS : S k i = some (.inl (ci, fs))) {stk : List Value} :
    ∃ vm', Stand p l e R s m args below meth c (T.setVm vm') locs cells slots ∧ ∀ target, Steps p.tables e below ((T.setVm vm').setTop (F0 m h ls [.ref (t k i)])) target → Steps p.tables e below ((T.setTop (F0 m pc ls stk)).pushFrame (.throwing (t k i))) target := by
  subst hhs
  obtain ⟨C, Tt, N, pre, x, rest, hc, hsp, rfl, hx, h0, hl, hpre⟩ := hh ci h hct
  obtain ⟨r', g1, cell, q1, q2, q3, q4⟩ := hR.1 _ _ _ h48 hS
  have hts := hC.2.2.2.2.2.1
  have hpl : e.platform.magicAccessors = ({} : Platform).magicAccessors := by rw [X.admits.platform]
  have hcls := (hC.2.2.2.2.2.2.1.1.1 ci _ hc).2
  obtain ⟨kc, hkc, hcl⟩ := Cond.classLink_spec hC.2.2.2.2.1 (hts _ hl) e.platform hpl
  have hkc' : kc = G.1.1 ci := Option.some.inj (hkc.symm.trans hcls.1)
  subst hkc'
  have hobj : ∀ k, cell.vm ≠ .statics k := fun k q => by rw [q3] at q; cases q
  obtain ⟨kC, hkC, -⟩ := hcls.2
  have hcell' : ((T.setTop (F0 m pc ls stk)).pushFrame (.throwing (t k i))).heap[t k i]? = some cell := by rw [Stand.throwing_heap]; exact q1
  have hvm' : s.WarmedH ((T.setTop (F0 m pc ls stk)).pushFrame (.throwing (t k i))).vm := by rw [Stand.throwing_vm]; exact X.warmed
  obtain ⟨vm', hW', hq⟩ := x_search (e := e) (s0 := s) (f := F0 m pc ls stk) (a := t k i) (cell := cell) hobj ⟨kC, by rw [q2]; exact hkC⟩ rest hx h0 hcl (by rw [q2]; exact va_assign hcls) pre _ hvm' hcell' (fun y hy => by
    rcases hpre y hy with q | ⟨hy0, nm, hyl, hyn⟩
    · exact Or.inl q
    · obtain ⟨ky, hky, hyc⟩ := Cond.classLink_spec hC.2.2.2.2.1 (hts _ hyl) e.platform hpl
      have hv := Cond.holds_not_iff.mp (hts _ hyn)
      have hfC : s.vm.findClass C = some cell.cls := by rw [q2]; exact hcls.1
      simp only [Cond.value, hfC, hky] at hv
      exact Or.inr ⟨hy0, ky, hyc, Option.some.inj hv⟩)
  have hmeth : ((T.setTop (F0 m pc ls stk)).pushFrame (.throwing (t k i))).vm.method? m = some meth := by rw [Stand.throwing_vm]; exact X.method'
  refine ⟨vm', X.noted hW', fun target hrest => ?_⟩
  refine x_caught (g := F0 m pc ls stk) X.here (pc := x.handlerPc) (vm' := vm') ?_ hrest
  intro Q E d acts
  rw [W.findHandler_eq hmeth X.code, hC.2.2.2.2.2.2.2.2.2.1, hsp]
  exact hq Q E d acts
/-- behind the call's site: the callee goes, and then what comes behind it -/
theorem x_call {y : MethodName} {My : XM} {Y : XMeth} {vs rest : List XV} {stk : List Value} {hs : List (Nat × Nat)} {mc ms : Nat} {ig : Instr} (hl : l.stackTraces = false) (hC : x_C G M p R s m args meth c) (hY : x_Snd y My Y) (his : x_Is y My) (hini : Cond.initialized y.cls ∈ x_Wd) (hdg : decode M.2.1 pc = .ok (ig, 3)) (hfr : My.2.2.2.2.2.2.1 + 1 ≤ M.2.2.2.2.2.2.1) (hlo : 8 + (My.2.2.1 + 11) + My.2.2.2.2.2.2.2 ≤ M.2.2.2.2.2.2.2) (hh : x_hok M pc hs)
    (hK : ∀ pc L st S u w, K pc L st S u w → x_W G p l e R s m args below meth c M.2.2.1 P t0 S0 pc L st S u w)
    (h1 : x_ag t0 t S0) (h2 : x_dm S0 S) (h3 : x_R G t S H) (h4 : ∀ q ∈ locs, G.2.2.1 ≤ q.base) (h5 : x_L t ls M.2.2.1 L) (h6 : x_okl S L) (hvs : x_oks S vs) (hv1 : ∀ v ∈ vs, x_c1 v = true) (hvl : vs.length ≤ My.2.2.1) (hro : x_oks S rest) (hrc : x_cs rest ≤ 8) (h8 : cells + u ≤ R.cells) (h9 : slots + w ≤ R.slots) (hmc : mc ≤ u) (hms : ms ≤ w)
    (hrun : Y mc ms vs S (x_aft K P hs (pc + 3) L rest (u - mc) (w - ms)))
    (site : ∀ T : State, T.heap = H → Stand p l e R s m args below meth c T locs cells slots → ∃ (vm₁ : Vm) (mk : MethodId), Stand p l e R s m args below meth c (T.setVm vm₁) locs cells slots ∧ (T.setVm vm₁).methodNamed? y = some mk ∧
      ∀ target, (∀ acts, Steps p.tables e below (doInvoke e ((T.setVm vm₁).setTop (F0 m pc ls (rest.map (xz t)))) acts mk (vs.map (xz t)).toArray).1 target) → Steps p.tables e below (T.setTop (F0 m pc ls stk)) target) :
    W p l e R s m args below meth c H locs cells slots (x_Q G below P t0 S0 s R.cells R.slots) (F0 m pc ls stk) := by
  intro T hT X
  obtain ⟨vm₁, mk, X₁, hn, hstep⟩ := site T hT X
  have hts := hC.2.2.2.2.2.1
  have hsz : (F0 m pc ls (rest.map (xz t))).locals.size = c.maxLocals := by rw [hC.2.2.1]; exact h5.1.1
  obtain ⟨o, T', L', X', hL', ⟨t', S', a1, a2, a3, a4⟩, hs'⟩ := x_back (g := F0 m pc ls (rest.map (xz t))) X₁ (hY l G t S vs mc ms _ hl hvl hrun) his hts (hts _ hini) rfl hsz (by rw [hC.2.1]; exact hdg) (by show 2 * 0 + _ ≤ 8; rw [x_cs_cat]; omega) hn (Nat.le_trans hfr hC.2.2.2.2.2.2.2.2.2.2.1) (Nat.le_trans hlo hC.2.2.2.2.2.2.2.2.2.2.2) (by omega) (by omega) (by show x_R G t S T.heap; rw [hT]; exact h3) (x_K.moved X₁.warmed hC.2.2.2.2.2.2.1) hvs hv1
  have hag : x_ag t0 t' S0 := fun a b q => (a1 a b (h2 a b q)).trans (h1 a b q)
  have hdm := h2.trans a2
  have hloc : ∀ q ∈ locs ++ L', G.2.2.1 ≤ q.base := fun q hq => by
    rcases List.mem_append.mp hq with z | z
    · exact h4 q z
    · exact hL' q z
  cases o with
  | returned v =>
    rcases a4 with ⟨r, hv, hro', hP⟩ | ⟨_, _, hv, _⟩
    · cases hv
      have hk := hK _ _ _ _ _ _ hP t' T'.heap (locs ++ L') ls (cells + mc) (slots + ms) hag hdm a3 hloc (h5.ag h6 a1) (h6.dm a2) (fun z hz => by
        rcases List.mem_append.mp hz with q | q
        · exact hro' z (Option.mem_toList.mp q)
        · exact (hro.dm a2) z q) (by omega) (by omega)
      obtain ⟨tt, b1, b2⟩ := hk T' rfl X'
      refine ⟨tt, hstep _ fun acts => ?_, b2⟩
      rw [doInvoke_state]
      refine hs'.trans ?_
      have es : (r.map (xz t')).toList ++ rest.map (xz t) = (r.toList ++ rest).map (xz t') := by
        rw [List.map_append, xz_ags hro a1]
        cases r <;> rfl
      show Steps p.tables e below (T'.setTop (F0 m (pc + 3) ls ((r.map (xz t')).toList ++ rest.map (xz t)))) tt
      rw [es]
      exact b1
    · cases hv
  | threw x =>
    rcases a4 with ⟨r, hv, _⟩ | ⟨k, i, hv, hne, hP⟩
    · cases hv
    · cases hv
      cases hs with
      | nil =>
        have hout : ∀ z ∈ c.exceptionTable.toList, covers z (F0 m pc ls (rest.map (xz t))).pc = false := fun z hz => by
          rw [hC.2.2.2.2.2.2.2.2.2.1] at hz
          have hz2 := List.all_eq_true.mp hh z hz
          show covers z pc = false
          cases hcv : covers z pc with
          | false => rfl
          | true => rw [hcv] at hz2; cases hz2
        obtain ⟨s1, r1, r2, r3, r4⟩ := X'.leaveThrown (t' k i) (g := F0 m pc ls (rest.map (xz t))) rfl rfl rfl hout hC.2.2.2.2.2.2.2.1
        refine ⟨_, hstep _ fun acts => ?_, .threw (t' k i), r1, r2, ⟨t', S', hag, hdm, a3, Or.inr ⟨k, i, rfl, hne, hP⟩⟩, locs ++ L', ⟨r3, r4.mono (by omega) (by omega)⟩, hloc⟩
        rw [doInvoke_state]
        exact hs'.trans s1
      | cons a b =>
        obtain ⟨ci, fs, h, hS, h48, hct, hk⟩ := hP
        obtain ⟨vm', X'', hst⟩ := x_catchW (ls := ls) (pc := pc) (stk := rest.map (xz t)) X' hC rfl hh hct a3 h48 hS
        have hk' := hK _ _ _ _ _ _ hk t' T'.heap (locs ++ L') ls (cells + mc) (slots + ms) hag hdm a3 hloc (h5.ag h6 a1) (h6.dm a2) (x_oks.cons hne (fun _ q => by cases q)) (by omega) (by omega)
        obtain ⟨tt, b1, b2⟩ := hk' (T'.setVm vm') rfl X''
        refine ⟨tt, hstep _ fun acts => ?_, b2⟩
        rw [doInvoke_state]
        exact hs'.trans (hst tt b1)
end XCL
