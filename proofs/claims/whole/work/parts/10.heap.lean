/-! fields, arrays, new -/
section XHP
variable {M : XM} {pc : Nat}
theorem x_P1 {G : XG} {t : XT} {S : XH} {H : Heap} {k i ci : Nat} {fs : List XV} (h : x_R G t S H) (h48 : k < 48) (hc : S k i = some (.inl (ci, fs))) : va_P G.1 x_cls [(t k i, .inr (ci, fs.map (xz t)))] H := by
  intro j q hq
  have hj : j = 0 := by
    have := (List.getElem?_eq_some_iff.mp hq).1
    simp at this
    exact this
  subst hj
  cases hq
  exact h.1 k i _ h48 hc
theorem x_PA {G : XG} {t : XT} {S : XH} {H : Heap} {k i ty n : Nat} {a : XA} (h : x_R G t S H) (h48 : k < 48) (hc : S k i = some (.inr (ty, n, a))) : va_P G.1 x_cls [(t k i, .inl (G.2.1 ty, xz_a t n a))] H := by
  intro j q hq
  have hj : j = 0 := by
    have := (List.getElem?_eq_some_iff.mp hq).1
    simp at this
    exact this
  subst hj
  cases hq
  exact h.1 k i _ h48 hc
theorem x_K1 {G : XG} {U : State} (h : x_K G U) {q : Nat} {ty : FieldType} (hq : x_tys[q]? = some ty) : va_K G.1 x_cls [(G.2.1 q, ty)] U := by
  refine ⟨h.1.1, fun j r hr => ?_⟩
  have hj : j = 0 := by
    have := (List.getElem?_eq_some_iff.mp hr).1
    simp at this
    exact this
  subst hj
  cases hr
  exact h.2.1 q ty hq
def x_same (ref own nm de : String) : Prop := ref = own ∨ Cond.sameField ref own nm de ∈ x_Wd
theorem x_same.use {ref own nm de : String} (h : x_same ref own nm de) {args : Array Value} {s : State} (hts : ∀ w ∈ x_Wd, w.before args s = true) : ∀ x, s.fieldFound? own nm de = some x → s.fieldFound? ref nm de = some x := by
  intro x hx
  rcases h with rfl | h
  · exact hx
  · exact u_same (hts _ h) x hx
def X_get (ci k : Nat) : XI := fun K _ pc L st S u w => match st with
  | .inr (.inr (some q)) :: r => q.1 < 48 ∧ ∃ fs v, S q.1 q.2 = some (.inl (ci, fs)) ∧ fs[k]? = some v ∧ K (pc + 3) L (v :: r) S u w
  | _ => False
theorem x_okf {G : XG} {t : XT} {S : XH} {H : Heap} (h : x_R G t S H) {k i ci j : Nat} {fs : List XV} {v : XV} (hc : S k i = some (.inl (ci, fs))) (hv : fs[j]? = some v) : x_ok S v := (h.2.1 k i _ hc : x_oks S fs) v (List.mem_of_getElem? hv)
theorem xs_get {ci k index N : Nat} {ref C : String} {T : u_T} (hd : decode M.2.1 pc = .ok (.getfield index, 3)) (hc : x_cls[ci]? = some (C, T, N)) (hin : ∀ w ∈ u_ws C T N, w ∈ x_Wd) (hk : k < N) (hl : Cond.fieldLink M.1 index ref (T k).2.1 (T k).2.2.1 ∈ x_Wd) (hs : x_same ref (T k).1 (T k).2.1 (T k).2.2.1) : XSnd M pc (X_get ci k) := by
  intro G p l e R s m args below meth c P t0 S0 htr0 hC K hK L st S u w h t H locs ls cells slots h1 h2 h3 h4 h5 h6 h7 h8 h9
  unfold X_get at h
  split at h
  · next q r =>
    obtain ⟨h48, fs, v, e1, e2, h⟩ := h
    exact va_get (D := G.1) (ci := ci) (v := xz t v) hC.1 hC.2.1 hC.2.2.2.2.2.1 hin hC.2.2.2.2.1 hC.2.2.2.2.2.2.1.1 (x_P1 h3 h48 e1) 0 rfl hc k hk (hC.2.2.2.2.2.1 _ hl) (hs.use hC.2.2.2.2.2.1) (by rw [List.getElem?_map, e2]; rfl) hd (hK _ _ _ _ _ _ h t H locs ls cells slots h1 h2 h3 h4 h5 h6 (x_oks.cons (x_okf h3 e1 e2) h7.tl) h8 h9)
  · exact h.elim
theorem xs_getN {ci k index N : Nat} {ref C host : String} {T : u_T} (hd : decode M.2.1 pc = .ok (.getfield index, 3)) (hc : x_cls[ci]? = some (C, T, N)) (hin : ∀ w ∈ u_ws C T N, w ∈ x_Wd) (hk : k < N) (hl : Cond.fieldLinkNest M.1 index ref (T k).2.1 (T k).2.2.1 host ∈ x_Wd) (hs : x_same ref (T k).1 (T k).2.1 (T k).2.2.1) : XSnd M pc (X_get ci k) := by
  intro G p l e R s m args below meth c P t0 S0 htr0 hC K hK L st S u w h t H locs ls cells slots h1 h2 h3 h4 h5 h6 h7 h8 h9
  unfold X_get at h
  split at h
  · next q r =>
    obtain ⟨h48, fs, v, e1, e2, h⟩ := h
    exact va_getN (D := G.1) (ci := ci) (v := xz t v) hC.1 hC.2.1 hC.2.2.2.2.2.1 hin hC.2.2.2.2.1 hC.2.2.2.2.2.2.1.1 (x_P1 h3 h48 e1) 0 rfl hc k hk (hC.2.2.2.2.2.1 _ hl) (hs.use hC.2.2.2.2.2.1) (by rw [List.getElem?_map, e2]; rfl) hd (hK _ _ _ _ _ _ h t H locs ls cells slots h1 h2 h3 h4 h5 h6 (x_oks.cons (x_okf h3 e1 e2) h7.tl) h8 h9)
  · exact h.elim
/-- what may be stored: an int, a boolean, a byte, a reference -/
def x_tI (v : XV) : Prop := match v with
  | .inl _ => True
  | _ => False
def x_tZ (v : XV) : Prop := match v with
  | .inl x => x = 0 ∨ x = 1
  | _ => False
def x_tB (v : XV) : Prop := match v with
  | .inl x => x.toInt8.toInt32 = x
  | _ => False
def x_tR (v : XV) : Prop := match v with
  | .inr (.inr _) => True
  | _ => False
def x_fit (ty : FieldType) (f : XV → Prop) : Prop := ∀ (t : XT) (v : XV), f v → narrow ty (xz t v) = xz t v ∧ fits ty (xz t v) = true
theorem x_fitI : x_fit .int x_tI := fun t v h => by
  rcases v with x | x | r
  · exact ⟨rfl, rfl⟩
  · exact h.elim
  · exact h.elim
theorem x_fitZ : x_fit .boolean x_tZ := fun t v h => by
  rcases v with x | x | r
  · rcases h with rfl | rfl <;> exact ⟨rfl, rfl⟩
  · exact h.elim
  · exact h.elim
theorem x_fitB : x_fit .byte x_tB := fun t v h => by
  rcases v with x | x | r
  · have e : x.toInt8.toInt32 = x := h
    refine ⟨?_, ?_⟩
    · show narrow .byte (.int x) = .int x
      rw [narrow_byte, e]
    · show fits .byte (.int x) = true
      rw [← e]
      exact pk_fb x
  · exact h.elim
  · exact h.elim
theorem x_fitO {C : String} : x_fit (.object C) x_tR := fun t v h => by
  rcases v with x | x | r
  · exact h.elim
  · exact h.elim
  · cases r <;> exact ⟨rfl, rfl⟩
theorem x_fitA {C : FieldType} : x_fit (.array C) x_tR := fun t v h => by
  rcases v with x | x | r
  · exact h.elim
  · exact h.elim
  · cases r <;> exact ⟨rfl, rfl⟩
def X_put (f : XV → Prop) (ci k : Nat) : XI := fun K _ pc L st S u w => match st with
  | v :: .inr (.inr (some q)) :: r => f v ∧ ∃ fs, S q.1 q.2 = some (.inl (ci, fs)) ∧ q.1 < 48 ∧ k < fs.length ∧ K (pc + 3) L r (x_up S q.1 q.2 (.inl (ci, fs.set k v))) u w
  | _ => False
/-- the world behind a field's store -/
theorem x_putR {G : XG} {t : XT} {S : XH} {H H1 : Heap} {k i ci j N : Nat} {C : String} {T : u_T} {fs : List XV} {v : XV} {cell : Cell} (h : x_R G t S H) (e1 : S k i = some (.inl (ci, fs))) (hk : k < 48) (hj : j < fs.length) (hv : x_ok S v) (hc : x_cls[ci]? = some (C, T, N)) (hjN : j < N) (hap : ∀ x y, x < N → y < N → x ≠ y → (G.1.2 ci) x ≠ (G.1.2 ci) y)
    (q2 : cell.cls = G.1.1 ci) (q3 : cell.vm = .none) (q4 : ∀ k, k < N → cell.slots[(G.1.2 ci) k]? = some (vp_V (fs.map (xz t)) k)) (g1 : H1[t k i]? = some (cell.setSlot ((G.1.2 ci) j) (xz t v))) (g2 : H1.size = H.size) (g3 : ∀ q, q ≠ t k i → H1[q]? = H[q]?) : x_R G t (x_up S k i (.inl (ci, fs.set j v))) H1 := by
  refine h.set e1 hk ?_ g2 g3 ?_
  · intro v' hv'
    rcases List.mem_or_eq_of_mem_set hv' with q | q
    · exact (h.2.1 k i _ e1 : x_oks S fs) v' q
    · rw [q]
      exact hv
  · refine ⟨_, hc, t_OB.to (V := updV (vp_V (fs.map (xz t))) j (xz t v)) ⟨_, g1, q2, q3, t_set q4 hap hjN (xz t v)⟩ (fun a _ => ?_)⟩
    rw [vp_updV_set (by rw [List.length_map]; exact hj)]
    show vp_V ((fs.map (xz t)).set j (xz t v)) a = vp_V ((fs.set j v).map (xz t)) a
    rw [List.map_set]
theorem x_locs {G : XG} {locs : List Loc} {a n : Nat} (h : ∀ q ∈ locs, G.2.2.1 ≤ q.base) (ha : G.2.2.1 ≤ a) : ∀ q ∈ locs ++ [(⟨a, n⟩ : Loc)], G.2.2.1 ≤ q.base := fun q hq => by
  rcases List.mem_append.mp hq with z | z
  · exact h q z
  · rw [List.mem_singleton.mp z]
    exact ha
theorem xs_put {f : XV → Prop} {ci k index N : Nat} {ref C : String} {T : u_T} {ty0 : Nat → FieldType} {ty : FieldType} (hd : decode M.2.1 pc = .ok (.putfield index, 3)) (hc : x_cls[ci]? = some (C, T, N)) (hin : ∀ w ∈ u_ws C T N, w ∈ x_Wd) (hty : ∀ k, k < N → parseFieldDescriptor (T k).2.2.1 = some (ty0 k)) (hnm : ∀ a, a < N → ∀ b, b < N → a ≠ b → (T a).2.1 ≠ (T b).2.1)
    (hk : k < N) (hl : Cond.fieldLink M.1 index ref (T k).2.1 (T k).2.2.1 ∈ x_Wd) (hs : x_same ref (T k).1 (T k).2.1 (T k).2.2.1) (hfin : (T k).2.2.2 = false) (hpd : parseFieldDescriptor (T k).2.2.1 = some ty) (hf : x_fit ty f) : XSnd M pc (X_put f ci k) := by
  intro G p l e R s m args below meth c P t0 S0 htr0 hC K hK L st S u w h t H locs ls cells slots h1 h2 h3 h4 h5 h6 h7 h8 h9
  unfold X_put at h
  split at h
  · next v q r =>
    obtain ⟨hfv, fs, e1, hq, hkl, h⟩ := h
    have hts := hC.2.2.2.2.2.1
    have hap := va_apart (own := M.1) hts hin ty0 hty hnm hC.2.2.2.2.2.2.1.1 hc
    obtain ⟨r', g1, cell, q1, q2, q3, q4⟩ := h3.1 _ _ _ hq e1
    have hr : r' = (C, T, N) := Option.some.inj (g1.symm.trans hc)
    subst hr
    obtain ⟨hS, hfc, kC, hkC, hkind⟩ := hC.2.2.2.2.2.2.1.1.1 ci _ hc
    obtain ⟨cf, kf, fi, fd, hi, hsl⟩ := hS k hk
    have hlay := hts _ (hin _ (u_in_lay hk))
    unfold u_lay at hlay
    rw [if_neg (by rw [hfin]; decide)] at hlay
    have hst := (u_facts hfc hkC (u_lays hts hin hk) hi).1
    have h6' := u_store hfc hkC hkind hlay hi hpd (hf t v hfv).1 (hf t v hfv).2
    refine W.putK hC.1 hC.2.1 (f := fd) ⟨hC.2.2.2.2.1, hts _ hl, ⟨_, _, _, hs.use hts _ hi⟩, hst⟩ (by rw [q2]; exact h6') q1 q3 (by rw [hsl]; exact k2_hasslot (q4 k hk)) rfl rfl hd fun H' g1 g2 g3 => ?_
    rw [hsl] at g1 ⊢
    exact hK _ _ _ _ _ _ h t H' _ ls cells slots h1 (h2.up) (x_putR h3 e1 hq hkl h7.hd hc hk hap q2 q3 q4 g1 g2 g3) (x_locs h4 (h3.2.2.2.1 _ _ (x_some e1) hq)) h5 (h6.dm (x_dm.up x_dm.rf)) (h7.tl.tl.dm (x_dm.up x_dm.rf)) h8 h9
  · exact h.elim
theorem xs_putN {f : XV → Prop} {ci k index N : Nat} {ref C host : String} {T : u_T} {ty0 : Nat → FieldType} {ty : FieldType} (hd : decode M.2.1 pc = .ok (.putfield index, 3)) (hc : x_cls[ci]? = some (C, T, N)) (hin : ∀ w ∈ u_ws C T N, w ∈ x_Wd) (hty : ∀ k, k < N → parseFieldDescriptor (T k).2.2.1 = some (ty0 k)) (hnm : ∀ a, a < N → ∀ b, b < N → a ≠ b → (T a).2.1 ≠ (T b).2.1)
    (hk : k < N) (hl : Cond.fieldLinkNest M.1 index ref (T k).2.1 (T k).2.2.1 host ∈ x_Wd) (hs : x_same ref (T k).1 (T k).2.1 (T k).2.2.1) (hfin : (T k).2.2.2 = false) (hpd : parseFieldDescriptor (T k).2.2.1 = some ty) (hf : x_fit ty f) : XSnd M pc (X_put f ci k) := by
  intro G p l e R s m args below meth c P t0 S0 htr0 hC K hK L st S u w h t H locs ls cells slots h1 h2 h3 h4 h5 h6 h7 h8 h9
  unfold X_put at h
  split at h
  · next v q r =>
    obtain ⟨hfv, fs, e1, hq, hkl, h⟩ := h
    have hts := hC.2.2.2.2.2.1
    have hap := va_apart (own := M.1) hts hin ty0 hty hnm hC.2.2.2.2.2.2.1.1 hc
    obtain ⟨r', g1, cell, q1, q2, q3, q4⟩ := h3.1 _ _ _ hq e1
    have hr : r' = (C, T, N) := Option.some.inj (g1.symm.trans hc)
    subst hr
    obtain ⟨hS, hfc, kC, hkC, hkind⟩ := hC.2.2.2.2.2.2.1.1.1 ci _ hc
    obtain ⟨cf, kf, fi, fd, hi, hsl⟩ := hS k hk
    have hlay := hts _ (hin _ (u_in_lay hk))
    unfold u_lay at hlay
    rw [if_neg (by rw [hfin]; decide)] at hlay
    have hst := (u_facts hfc hkC (u_lays hts hin hk) hi).1
    have h6' := u_store hfc hkC hkind hlay hi hpd (hf t v hfv).1 (hf t v hfv).2
    refine va_WputK hC.1 hC.2.1 (f := fd) hC.2.2.2.2.1 (hts _ hl) (hs.use hts _ hi) hst (by rw [q2]; exact h6') q1 q3 (by rw [hsl]; exact k2_hasslot (q4 k hk)) rfl rfl hd fun H' g1 g2 g3 => ?_
    rw [hsl] at g1 ⊢
    exact hK _ _ _ _ _ _ h t H' _ ls cells slots h1 (h2.up) (x_putR h3 e1 hq hkl h7.hd hc hk hap q2 q3 q4 g1 g2 g3) (x_locs h4 (h3.2.2.2.1 _ _ (x_some e1) hq)) h5 (h6.dm (x_dm.up x_dm.rf)) (h7.tl.tl.dm (x_dm.up x_dm.rf)) h8 h9
  · exact h.elim
/-- a final field, in a constructor of its class -/
theorem xs_putF {f : XV → Prop} {ci k index N : Nat} {ref C : String} {T : u_T} {ty0 : Nat → FieldType} {ty : FieldType} (hd : decode M.2.1 pc = .ok (.putfield index, 3)) (hc : x_cls[ci]? = some (C, T, N)) (hin : ∀ w ∈ u_ws C T N, w ∈ x_Wd) (hty : ∀ k, k < N → parseFieldDescriptor (T k).2.2.1 = some (ty0 k)) (hnm : ∀ a, a < N → ∀ b, b < N → a ≠ b → (T a).2.1 ≠ (T b).2.1)
    (hk : k < N) (hl : Cond.fieldLink M.1 index ref (T k).2.1 (T k).2.2.1 ∈ x_Wd) (hs : x_same ref (T k).1 (T k).2.1 (T k).2.2.1) (hfin : (T k).2.2.2 = true) (hin2 : M.2.2.2.2.1 = "<init>") (hdecl : (T k).1 = M.1) (hpd : parseFieldDescriptor (T k).2.2.1 = some ty) (hf : x_fit ty f) : XSnd M pc (X_put f ci k) := by
  intro G p l e R s m args below meth c P t0 S0 htr0 hC K hK L st S u w h t H locs ls cells slots h1 h2 h3 h4 h5 h6 h7 h8 h9
  unfold X_put at h
  split at h
  · next v q r =>
    obtain ⟨hfv, fs, e1, hq, hkl, h⟩ := h
    have hts := hC.2.2.2.2.2.1
    have hap := va_apart (own := M.1) hts hin ty0 hty hnm hC.2.2.2.2.2.2.1.1 hc
    obtain ⟨r', g1, cell, q1, q2, q3, q4⟩ := h3.1 _ _ _ hq e1
    have hr : r' = (C, T, N) := Option.some.inj (g1.symm.trans hc)
    subst hr
    obtain ⟨hS, hfc, kC, hkC, hkind⟩ := hC.2.2.2.2.2.2.1.1.1 ci _ hc
    obtain ⟨cf, kf, fi, fd, hi, hsl⟩ := hS k hk
    have hst := (u_facts hfc hkC (u_lays hts hin hk) hi).1
    have h6' := u_fits hfc hkC hkind (u_lays hts hin hk) hi hpd (hf t v hfv).1 (hf t v hfv).2
    have hlay := hts _ (hin _ (u_in_lay hk))
    unfold u_lay at hlay
    rw [if_pos hfin] at hlay
    have hcf : m.cls = cf := by
      obtain ⟨_, _, c', _, _, _, -, -, hf', -, -, -, hown2, -⟩ := Cond.laysFinal_spec hlay
      have z1 : c' = cf := by have := hi.symm.trans hf'; simp at this; exact this.1.symm
      rw [hdecl] at hown2
      rw [← z1]
      exact Option.some.inj (hC.2.2.2.2.1.symm.trans hown2)
    refine W.putFinK hC.1 hC.2.1 (f := fd) hC.2.2.2.2.1 (hts _ hl) (hs.use hts _ hi) hst hcf (hC.2.2.2.2.2.2.2.2.1.trans hin2) (by rw [q2]; exact h6') q1 q3 (by rw [hsl]; exact k2_hasslot (q4 k hk)) rfl rfl hd fun H' g1 g2 g3 => ?_
    rw [hsl] at g1 ⊢
    exact hK _ _ _ _ _ _ h t H' _ ls cells slots h1 (h2.up) (x_putR h3 e1 hq hkl h7.hd hc hk hap q2 q3 q4 g1 g2 g3) (x_locs h4 (h3.2.2.2.1 _ _ (x_some e1) hq)) h5 (h6.dm (x_dm.up x_dm.rf)) (h7.tl.tl.dm (x_dm.up x_dm.rf)) h8 h9
  · exact h.elim
/-- new: the place is the prover's to choose -/
def X_new (ci n : Nat) (dfl : List XV) : XI := fun K _ pc L st S u w => 1 ≤ u ∧ n ≤ w ∧ ∃ k i, k < 48 ∧ S k i = none ∧ K (pc + 3) L (xv_r k i :: st) (x_up S k i (.inl (ci, dfl))) (u - 1) (w - n)
theorem x_oks_def {dfl : List XV} (h : dfl.all (fun v => match v with | .inr (.inr (some _)) => false | _ => true) = true) (S : XH) : x_oks S dfl := by
  intro v hv
  have := List.all_eq_true.mp h v hv
  rcases v with x | x | r
  · trivial
  · trivial
  · cases r with
    | none => trivial
    | some r => cases this
theorem xs_new {ci index n N : Nat} {C : String} {T : u_T} {ty : Nat → FieldType} {dfl : List XV} (hd : decode M.2.1 pc = .ok (.new index, 3)) (hc : x_cls[ci]? = some (C, T, N)) (hin : ∀ w ∈ u_ws C T N, w ∈ x_Wd) (hty : ∀ k, k < N → parseFieldDescriptor (T k).2.2.1 = some (ty k))
    (hcl : Cond.classLink M.1 index C ∈ x_Wd) (hinst : Cond.instantiable C n ∈ x_Wd) (hini : Cond.initialized C ∈ x_Wd) (hdf : ∀ t j, j < N → defaultValue (ty j) = vp_V (dfl.map (xz t)) j) (hdo : dfl.all (fun v => match v with | .inr (.inr (some _)) => false | _ => true) = true) : XSnd M pc (X_new ci n dfl) := by
  intro G p l e R s m args below meth c P t0 S0 htr0 hC K hK L st S u w h t H locs ls cells slots h1 h2 h3 h4 h5 h6 h7 h8 h9
  obtain ⟨hu, hw, k, i, hk, h0, h⟩ := h
  have hts := hC.2.2.2.2.2.1
  have hKn := hC.2.2.2.2.2.2.1.1.1 ci _ hc
  refine W.newcK hC.1 hC.2.1 hC.2.2.2.2.1 (hts _ hcl) (hts _ hinst) (hts _ hini) rfl hd (by omega) (by omega) hKn.2.1 rfl fun H1 kC hkC g1 g2 g3 => ?_
  obtain ⟨r1, r2⟩ := h3.new (c := .inl (ci, dfl)) hk h0 g2 g3 (x_oks_def hdo _) ⟨_, hc, (u_born ty hts hin hKn hkC g1 hty).to (hdf _)⟩
  have kk := hK _ _ _ _ _ _ h (x_ut t k i H.size) H1 locs ls (cells + 1) (slots + n) (fun a b q => (r2 a b (h2 a b q)).trans (h1 a b q)) h2.up r1 h4 (h5.ag h6 r2) (h6.dm (x_dm.up x_dm.rf)) (x_oks.cons (by show x_up S k i _ k i ≠ none; rw [x_up_self]; exact fun q => by cases q) (h7.dm (x_dm.up x_dm.rf))) (by omega) (by omega)
  rw [List.map_cons, xz_ags h7 r2] at kk
  have ez : xz (x_ut t k i H.size) (xv_r k i) = .ref H.size := congrArg Value.ref (x_ut_self t k i H.size)
  rw [ez] at kk
  exact kk
/-- a new array -/
def X_newa (q b : Nat) (z : XA) (ln : Nat) : XI := fun K _ pc L st S u w => match st with
  | .inl n :: r => ¬ n < 0 ∧ n.toNatClampNeg * b ≤ 536870912 ∧ 1 ≤ u ∧ n.toNatClampNeg ≤ w ∧ ∃ k i, k < 48 ∧ S k i = none ∧ K (pc + ln) L (xv_r k i :: r) (x_up S k i (.inr (q, n.toNatClampNeg, z))) (u - 1) (w - n.toNatClampNeg)
  | _ => False
theorem x_okz {S : XH} {q n : Nat} {z : XA} (h : ∀ f, z = .inr (.inr f) → ∀ j, f j = none) : x_okc S (.inr (q, n, z)) := by
  rcases z with f | f | f
  · trivial
  · trivial
  · intro j _
    show x_ok S (xv_o (f j))
    rw [h f rfl j]
    trivial
theorem xs_newa {q : Nat} {atype : ArrayType} {ty : FieldType} {z : XA} (hd : decode M.2.1 pc = .ok (.newarray atype, 2)) (hq : x_tys[q]? = some ty) (hty : newarray.typeOf atype = ty) (harr : Cond.arrayClass ty ∈ x_Wd) (hz : ∀ t cA n, vp_cell cA (xz_a t n z) = arrV cA n (fun _ => defaultValue ty)) (hzn : ∀ f, z = .inr (.inr f) → ∀ j, f j = none) : XSnd M pc (X_newa q (componentBytes ty) z 2) := by
  intro G p l e R s m args below meth c P t0 S0 htr0 hC K hK L st S u w h t H locs ls cells slots h1 h2 h3 h4 h5 h6 h7 h8 h9
  unfold X_newa at h
  split at h
  · next n r =>
    obtain ⟨hn, hb, hu, hw, k, i, hk, h0, h⟩ := h
    subst hty
    refine va_newaK hC.1 hC.2.1 (hC.2.2.2.2.2.1 _ harr) rfl hd rfl hn rfl hb (by omega) (by omega) rfl fun H1 cA g1 g2 g3 hAr hNm => ?_
    have hcA : cA = G.2.1 q := by
      have hRA := (hC.2.2.2.2.2.2.1.2.1 q _ hq).2
      have : s.vm.findClass ("[" ++ (newarray.typeOf atype).toString) = some (G.2.1 q) := by cases atype <;> exact hRA
      exact Option.some.inj (hNm.symm.trans this)
    obtain ⟨r1, r2⟩ := h3.new (c := .inr (q, n.toNatClampNeg, z)) hk h0 g2 g3 (x_okz hzn) (by
      show H1[H.size]? = some (vp_cell (G.2.1 q) (xz_a _ _ z))
      rw [hz, ← hcA]
      exact g1)
    have kk := hK _ _ _ _ _ _ h (x_ut t k i H.size) H1 locs ls (cells + 1) (slots + n.toNatClampNeg) (fun a b q => (r2 a b (h2 a b q)).trans (h1 a b q)) h2.up r1 h4 (h5.ag h6 r2) (h6.dm (x_dm.up x_dm.rf)) (x_oks.cons (by show x_up S k i _ k i ≠ none; rw [x_up_self]; exact fun q => by cases q) (h7.tl.dm (x_dm.up x_dm.rf))) (by omega) (by omega)
    rw [List.map_cons, xz_ags h7.tl r2] at kk
    have ez : xz (x_ut t k i H.size) (xv_r k i) = .ref H.size := congrArg Value.ref (x_ut_self t k i H.size)
    rw [ez] at kk
    exact kk
  · exact h.elim
theorem xs_anew {q index : Nat} {C : String} (hd : decode M.2.1 pc = .ok (.anewarray index, 3)) (hq : x_tys[q]? = some (.object C)) (hcl : Cond.classLink M.1 index C ∈ x_Wd) (hov : Cond.arrayOver (.object C) ∈ x_Wd) : XSnd M pc (X_newa q 4 (.inr (.inr (fun _ => none))) 3) := by
  intro G p l e R s m args below meth c P t0 S0 htr0 hC K hK L st S u w h t H locs ls cells slots h1 h2 h3 h4 h5 h6 h7 h8 h9
  unfold X_newa at h
  split at h
  · next n r =>
    obtain ⟨hn, hb, hu, hw, k, i, hk, h0, h⟩ := h
    refine W.anew hC.1 hC.2.1 hC.2.2.2.2.1 (hC.2.2.2.2.2.1 _ hcl) (hC.2.2.2.2.2.1 _ hov) rfl hd rfl hn hb (by omega) (by omega) fun cA kA comp f1 f2 f3 f4 => ?_
    generalize hH1 : H.push ({ cls := cA, slots := Array.replicate n.toNatClampNeg .null, vm := .none } : Cell) = H1
    have g2 : H1.size = H.size + 1 := by rw [← hH1, Array.size_push]
    have g1 : H1[H.size]? = some (arrV cA n.toNatClampNeg (fun _ => .null)) := by rw [← hH1, Array.getElem?_push_size, ← arrV_new]
    have g3 : ∀ q : Nat, q < H.size → H1[q]? = H[q]? := fun q hq => by rw [← hH1, Array.getElem?_push, if_neg (Nat.ne_of_lt hq)]
    have hcA : cA = G.2.1 q := by
      obtain ⟨_, _, _, _, _, hh⟩ := (hC.2.2.2.2.2.2.1.2.1 q _ hq).2
      exact Option.some.inj (f1.symm.trans hh)
    obtain ⟨r1, r2⟩ := h3.new (c := .inr (q, n.toNatClampNeg, .inr (.inr (fun _ => none)))) hk h0 g2 g3 (x_okz (fun f hf j => by cases hf; rfl)) (by
      show H1[H.size]? = some (vp_cell (G.2.1 q) (xz_a (x_ut t k i H.size) n.toNatClampNeg (.inr (.inr (fun _ => none)))))
      rw [← hcA]
      exact g1)
    have kk := hK _ _ _ _ _ _ h (x_ut t k i H.size) H1 locs ls (cells + 1) (slots + n.toNatClampNeg) (fun a b q => (r2 a b (h2 a b q)).trans (h1 a b q)) h2.up r1 h4 (h5.ag h6 r2) (h6.dm (x_dm.up x_dm.rf)) (x_oks.cons (by show x_up S k i _ k i ≠ none; rw [x_up_self]; exact fun q => by cases q) (h7.tl.dm (x_dm.up x_dm.rf))) (by omega) (by omega)
    rw [List.map_cons, xz_ags h7.tl r2] at kk
    have ez : xz (x_ut t k i H.size) (xv_r k i) = .ref H.size := congrArg Value.ref (x_ut_self t k i H.size)
    rw [ez] at kk
    exact kk
  · exact h.elim
/-- reading and writing arrays -/
def X_ald (q : Nat) : XI := fun K _ pc L st S u w => match st with
  | .inl j :: .inr (.inr (some a)) :: r => ∃ n f, S a.1 a.2 = some (.inr (q, n, .inl f)) ∧ vp_in j n ∧ K (pc + 1) L (.inl (f j.toNatClampNeg) :: r) S u w
  | _ => False
def X_lald (q : Nat) : XI := fun K _ pc L st S u w => match st with
  | .inl j :: .inr (.inr (some a)) :: r => a.1 < 48 ∧ ∃ n f, S a.1 a.2 = some (.inr (q, n, .inr (.inl f))) ∧ vp_in j n ∧ K (pc + 1) L (.inr (.inl (f j.toNatClampNeg)) :: r) S u w
  | _ => False
def X_aald (q : Nat) : XI := fun K _ pc L st S u w => match st with
  | .inl j :: .inr (.inr (some a)) :: r => a.1 < 48 ∧ ∃ n f, S a.1 a.2 = some (.inr (q, n, .inr (.inr f))) ∧ vp_in j n ∧ K (pc + 1) L (.inr (.inr (f j.toNatClampNeg)) :: r) S u w
  | _ => False
def X_alen : XI := fun K _ pc L st S u w => match st with
  | .inr (.inr (some a)) :: r => ∃ q n z, S a.1 a.2 = some (.inr (q, n, z)) ∧ q < x_tys.length ∧ K (pc + 1) L (.inl (Int32.ofNat n) :: r) S u w
  | _ => False
theorem xs_iald {q : Nat} (hd : decode M.2.1 pc = .ok (.iaload, 1)) (hq : x_tys[q]? = some .int) : XSnd M pc (X_ald q) := by
  intro G p l e R s m args below meth c P t0 S0 htr0 hC K hK L st S u w h t H locs ls cells slots h1 h2 h3 h4 h5 h6 h7 h8 h9
  unfold X_ald at h
  split at h
  · next j a r =>
    obtain ⟨n, f, e1, hj, h⟩ := h
    have kk := hK _ _ _ _ _ _ h t H locs ls cells slots h1 h2 h3 h4 h5 h6 (x_oks.cons trivial h7.tl.tl) h8 h9
    by_cases h48 : a.1 < 48
    · exact va_iald hC.1 hC.2.1 (x_K1 hC.2.2.2.2.2.2.1 hq) (x_PA h3 h48 e1) 0 0 rfl rfl hj hd kk
    · have hX := hC.2.2.2.2.2.2.1.2.2
      obtain ⟨z1, z2⟩ := h3.2.2.2.2.2.2 _ _ h48
      obtain ⟨ty, y1, y2⟩ := hX.1 _ _ _ _ _ h48 (z1.symm.trans e1)
      have y3 := y2.kept (x_hq hX h3)
      obtain ⟨cell, c1, c2, c3, c4, c5, c6, c7⟩ := y3
      have hty : ty = .int := Option.some.inj (y1.symm.trans hq)
      subst hty
      have hlt : j.toNatClampNeg < n := Nat.not_le.mp fun q => hj (Or.inr q)
      have ea : t a.1 a.2 = G.2.2.2.2.1 a.1 a.2 := (z2 (x_some e1)).1
      have kk2 : W p l e R s m args below meth c H locs cells slots _ (F0 m (pc + 1) ls (.int (f j.toNatClampNeg) :: r.map (xz t))) := kk
      show W p l e R s m args below meth c H locs cells slots _ (F0 m pc ls (.int j :: .ref (t a.1 a.2) :: r.map (xz t)))
      rw [ea]
      exact W.iald hC.1 hC.2.1 c1 c2 c3 (fun z => z.elim (fun z => hj (Or.inl z)) (fun z => by omega)) (c6 _ hlt) rfl rfl hd kk2
  · exact h.elim
theorem xs_bald {q : Nat} (hd : decode M.2.1 pc = .ok (.baload, 1)) (hq : x_tys[q]? = some .byte) : XSnd M pc (X_ald q) := by
  intro G p l e R s m args below meth c P t0 S0 htr0 hC K hK L st S u w h t H locs ls cells slots h1 h2 h3 h4 h5 h6 h7 h8 h9
  unfold X_ald at h
  split at h
  · next j a r =>
    obtain ⟨n, f, e1, hj, h⟩ := h
    have kk := hK _ _ _ _ _ _ h t H locs ls cells slots h1 h2 h3 h4 h5 h6 (x_oks.cons trivial h7.tl.tl) h8 h9
    by_cases h48 : a.1 < 48
    · exact va_bald hC.1 hC.2.1 (x_K1 hC.2.2.2.2.2.2.1 hq) (x_PA h3 h48 e1) 0 0 rfl rfl hj hd kk
    · have hX := hC.2.2.2.2.2.2.1.2.2
      obtain ⟨z1, z2⟩ := h3.2.2.2.2.2.2 _ _ h48
      obtain ⟨ty, y1, y2⟩ := hX.1 _ _ _ _ _ h48 (z1.symm.trans e1)
      have y3 := y2.kept (x_hq hX h3)
      obtain ⟨cell, c1, c2, c3, c4, c5, c6, c7⟩ := y3
      have hty : ty = .byte := Option.some.inj (y1.symm.trans hq)
      subst hty
      have hlt : j.toNatClampNeg < n := Nat.not_le.mp fun q => hj (Or.inr q)
      have ea : t a.1 a.2 = G.2.2.2.2.1 a.1 a.2 := (z2 (x_some e1)).1
      have kk2 : W p l e R s m args below meth c H locs cells slots _ (F0 m (pc + 1) ls (.int (f j.toNatClampNeg) :: r.map (xz t))) := kk
      show W p l e R s m args below meth c H locs cells slots _ (F0 m pc ls (.int j :: .ref (t a.1 a.2) :: r.map (xz t)))
      rw [ea]
      exact W.bald hC.1 hC.2.1 c1 c2 c3 (fun z => z.elim (fun z => hj (Or.inl z)) (fun z => by omega)) (c6 _ hlt) rfl rfl hd kk2
  · exact h.elim
theorem xs_lald {q : Nat} (hd : decode M.2.1 pc = .ok (.laload, 1)) (hq : x_tys[q]? = some .long) : XSnd M pc (X_lald q) := by
  intro G p l e R s m args below meth c P t0 S0 htr0 hC K hK L st S u w h t H locs ls cells slots h1 h2 h3 h4 h5 h6 h7 h8 h9
  unfold X_lald at h
  split at h
  · next j a r =>
    obtain ⟨h48, n, f, e1, hj, h⟩ := h
    exact va_lald hC.1 hC.2.1 (x_K1 hC.2.2.2.2.2.2.1 hq) (x_PA h3 h48 e1) 0 0 rfl rfl hj hd (hK _ _ _ _ _ _ h t H locs ls cells slots h1 h2 h3 h4 h5 h6 (x_oks.cons trivial h7.tl.tl) h8 h9)
  · exact h.elim
theorem xs_aald {q : Nat} {C : String} (hd : decode M.2.1 pc = .ok (.aaload, 1)) (hq : x_tys[q]? = some (.object C)) : XSnd M pc (X_aald q) := by
  intro G p l e R s m args below meth c P t0 S0 htr0 hC K hK L st S u w h t H locs ls cells slots h1 h2 h3 h4 h5 h6 h7 h8 h9
  unfold X_aald at h
  split at h
  · next j a r =>
    obtain ⟨h48, n, f, e1, hj, h⟩ := h
    have hlt : j.toNatClampNeg < n := Nat.not_le.mp fun q => hj (Or.inr q)
    have hok : x_ok S (xv_o (f j.toNatClampNeg)) := (h3.2.1 _ _ _ e1 : ∀ j, j < n → x_ok S (xv_o (f j))) _ hlt
    have kk := hK _ _ _ _ _ _ h t H locs ls cells slots h1 h2 h3 h4 h5 h6 (x_oks.cons hok h7.tl.tl) h8 h9
    rw [List.map_cons, ← xz_rf] at kk
    exact va_aldq hC.1 hC.2.1 (x_K1 hC.2.2.2.2.2.2.1 hq) (x_PA h3 h48 e1) 0 0 rfl rfl hj hd kk
  · exact h.elim
theorem xs_alen (hd : decode M.2.1 pc = .ok (.arraylength, 1)) : XSnd M pc X_alen := by
  intro G p l e R s m args below meth c P t0 S0 htr0 hC K hK L st S u w h t H locs ls cells slots h1 h2 h3 h4 h5 h6 h7 h8 h9
  unfold X_alen at h
  split at h
  · next a r =>
    obtain ⟨q, n, z, e1, hq, h⟩ := h
    have kk := hK _ _ _ _ _ _ h t H locs ls cells slots h1 h2 h3 h4 h5 h6 (x_oks.cons trivial h7.tl) h8 h9
    by_cases h48 : a.1 < 48
    · have hq' : x_tys[q]? = some x_tys[q] := List.getElem?_eq_getElem hq
      have en : (xz_a t n z).1 = n := by rcases z with f | f | f <;> rfl
      exact va_alen hC.1 hC.2.1 (x_K1 hC.2.2.2.2.2.2.1 hq') (x_PA h3 h48 e1) 0 0 rfl rfl (by rw [en]) hd kk
    · have hX := hC.2.2.2.2.2.2.1.2.2
      obtain ⟨z1, z2⟩ := h3.2.2.2.2.2.2 _ _ h48
      obtain ⟨ty, y1, y2⟩ := hX.1 _ _ _ _ _ h48 (z1.symm.trans e1)
      obtain ⟨cell, c1, c2, c3, c4, c5, c6, c7⟩ := y2.kept (x_hq hX h3)
      have ea : t a.1 a.2 = G.2.2.2.2.1 a.1 a.2 := (z2 (x_some e1)).1
      have kk2 : W p l e R s m args below meth c H locs cells slots _ (F0 m (pc + 1) ls (.int (Int32.ofNat n) :: r.map (xz t))) := kk
      show W p l e R s m args below meth c H locs cells slots _ (F0 m pc ls (.ref (t a.1 a.2) :: r.map (xz t)))
      rw [ea]
      exact W.alen hC.1 hC.2.1 c1 c2 c5 rfl rfl hd kk2
  · exact h.elim
def X_ast (q : Nat) (g : Int32 → Int32) : XI := fun K _ pc L st S u w => match st with
  | .inl x :: .inl j :: .inr (.inr (some a)) :: r => ∃ n f, S a.1 a.2 = some (.inr (q, n, .inl f)) ∧ a.1 < 48 ∧ vp_in j n ∧ K (pc + 1) L r (x_up S a.1 a.2 (.inr (q, n, .inl (upd f j.toNatClampNeg (g x))))) u w
  | _ => False
def X_last (q : Nat) : XI := fun K _ pc L st S u w => match st with
  | .inr (.inl x) :: .inl j :: .inr (.inr (some a)) :: r => ∃ n f, S a.1 a.2 = some (.inr (q, n, .inr (.inl f))) ∧ a.1 < 48 ∧ vp_in j n ∧ K (pc + 1) L r (x_up S a.1 a.2 (.inr (q, n, .inr (.inl (vp_updL f j.toNatClampNeg x))))) u w
  | _ => False
theorem xs_iast {q : Nat} (hd : decode M.2.1 pc = .ok (.iastore, 1)) (hq : x_tys[q]? = some .int) : XSnd M pc (X_ast q (fun x => x)) := by
  intro G p l e R s m args below meth c P t0 S0 htr0 hC K hK L st S u w h t H locs ls cells slots h1 h2 h3 h4 h5 h6 h7 h8 h9
  unfold X_ast at h
  split at h
  · next x j a r =>
    obtain ⟨n, f, e1, hk, hj, h⟩ := h
    refine W.iast hC.1 hC.2.1 (h3.1 _ _ _ hk e1) ((hC.2.2.2.2.2.2.1.2.1 q _ hq).1 n (fun j => .int (f j))) (fun q => by cases q) (by show ¬ (j < 0 ∨ (arrV _ _ _).slots.size ≤ _); rw [arrV_size]; exact hj) rfl rfl hd fun H1 g1 g2 g3 => ?_
    refine hK _ _ _ _ _ _ h t H1 _ ls cells slots h1 h2.up (h3.set e1 hk trivial g2 g3 ?_) (x_locs h4 (h3.2.2.2.1 _ _ (x_some e1) hk)) h5 (h6.dm (x_dm.up x_dm.rf)) (h7.tl.tl.tl.dm (x_dm.up x_dm.rf)) h8 h9
    show H1[t a.1 a.2]? = some (vp_cell _ _)
    rw [g1]
    show some ((vp_cell (G.2.1 q) (n, .inl f)).setSlot _ _) = some (vp_cell (G.2.1 q) (n, .inl _))
    rw [vp_cell_i, vp_cell_i, arrV_store]
    congr 2
    funext k
    by_cases hkk : k = j.toNatClampNeg
    · subst hkk
      simp [updV, upd]
    · simp [updV, upd, hkk]
  · exact h.elim
theorem xs_bast {q : Nat} (hd : decode M.2.1 pc = .ok (.bastore, 1)) (hq : x_tys[q]? = some .byte) : XSnd M pc (X_ast q (fun x => x.toInt8.toInt32)) := by
  intro G p l e R s m args below meth c P t0 S0 htr0 hC K hK L st S u w h t H locs ls cells slots h1 h2 h3 h4 h5 h6 h7 h8 h9
  unfold X_ast at h
  split at h
  · next x j a r =>
    obtain ⟨n, f, e1, hk, hj, h⟩ := h
    refine W.bast hC.1 hC.2.1 (h3.1 _ _ _ hk e1) ((hC.2.2.2.2.2.2.1.2.1 q _ hq).1 n (fun j => .int (f j))) (fun q => by cases q) (by show ¬ (j < 0 ∨ (arrV _ _ _).slots.size ≤ _); rw [arrV_size]; exact hj) rfl rfl hd fun H1 g1 g2 g3 => ?_
    refine hK _ _ _ _ _ _ h t H1 _ ls cells slots h1 h2.up (h3.set e1 hk trivial g2 g3 ?_) (x_locs h4 (h3.2.2.2.1 _ _ (x_some e1) hk)) h5 (h6.dm (x_dm.up x_dm.rf)) (h7.tl.tl.tl.dm (x_dm.up x_dm.rf)) h8 h9
    show H1[t a.1 a.2]? = some (vp_cell _ _)
    rw [g1]
    show some ((vp_cell (G.2.1 q) (n, .inl f)).setSlot _ _) = some (vp_cell (G.2.1 q) (n, .inl _))
    rw [vp_cell_i, vp_cell_i, arrV_store]
    congr 2
    funext k
    by_cases hkk : k = j.toNatClampNeg
    · subst hkk
      simp [updV, upd]
      rfl
    · simp [updV, upd, hkk]
  · exact h.elim
theorem xs_last {q : Nat} (hd : decode M.2.1 pc = .ok (.lastore, 1)) (hq : x_tys[q]? = some .long) : XSnd M pc (X_last q) := by
  intro G p l e R s m args below meth c P t0 S0 htr0 hC K hK L st S u w h t H locs ls cells slots h1 h2 h3 h4 h5 h6 h7 h8 h9
  unfold X_last at h
  split at h
  · next x j a r =>
    obtain ⟨n, f, e1, hk, hj, h⟩ := h
    refine W.last hC.1 hC.2.1 (h3.1 _ _ _ hk e1) ((hC.2.2.2.2.2.2.1.2.1 q _ hq).1 n (fun j => .long (f j))) (fun q => by cases q) (by show ¬ (j < 0 ∨ (arrV _ _ _).slots.size ≤ _); rw [arrV_size]; exact hj) rfl rfl hd fun H1 g1 g2 g3 => ?_
    refine hK _ _ _ _ _ _ h t H1 _ ls cells slots h1 h2.up (h3.set e1 hk trivial g2 g3 ?_) (x_locs h4 (h3.2.2.2.1 _ _ (x_some e1) hk)) h5 (h6.dm (x_dm.up x_dm.rf)) (h7.tl.tl.tl.dm (x_dm.up x_dm.rf)) h8 h9
    show H1[t a.1 a.2]? = some (vp_cell _ _)
    rw [g1]
    show some ((vp_cell (G.2.1 q) (n, .inr (.inl f))).setSlot _ _) = some (vp_cell (G.2.1 q) (n, .inr (.inl _)))
    rw [vp_cell_l, vp_cell_l, arrV_store]
    congr 2
    funext k
    by_cases hkk : k = j.toNatClampNeg
    · subst hkk
      simp [updV, vp_updL]
    · simp [updV, vp_updL, hkk]
  · exact h.elim
/-- a reference into an array of references: the object's class ci can be put there -/
def X_aast (q ci : Nat) : XI := fun K _ pc L st S u w => match st with
  | .inr (.inr (some v)) :: .inl j :: .inr (.inr (some a)) :: r => ∃ n f fs, S a.1 a.2 = some (.inr (q, n, .inr (.inr f))) ∧ S v.1 v.2 = some (.inl (ci, fs)) ∧ a.1 < 48 ∧ v.1 < 48 ∧ vp_in j n ∧ K (pc + 1) L r (x_up S a.1 a.2 (.inr (q, n, .inr (.inr (va_up f j.toNatClampNeg (some v)))))) u w
  | _ => False
theorem xs_aast {q ci N : Nat} {C : String} {T : u_T} (hd : decode M.2.1 pc = .ok (.aastore, 1)) (hq : x_tys[q]? = some (.object C)) (hc : x_cls[ci]? = some (C, T, N)) : XSnd M pc (X_aast q ci) := by
  intro G p l e R s m args below meth c P t0 S0 htr0 hC K hK L st S u w h t H locs ls cells slots h1 h2 h3 h4 h5 h6 h7 h8 h9
  unfold X_aast at h
  split at h
  · next v j a r =>
    obtain ⟨n, f, fs, e1, e2, hk, hkv, hj, h⟩ := h
    have hlt : j.toNatClampNeg < n := Nat.not_le.mp fun q => hj (Or.inr q)
    have h0 : ¬ j < 0 := fun q => hj (Or.inl q)
    obtain ⟨r', hr', cellV, c1, c2, c3, -⟩ := h3.1 _ _ _ hkv e2
    have hcls := (hC.2.2.2.2.2.2.1.1.1 ci _ hc).2
    obtain ⟨kA, comp, k1, k2, k3, -⟩ := (hC.2.2.2.2.2.2.1.2.1 q _ hq).2
    have hcomp : comp = G.1.1 ci := Option.some.inj (k3.symm.trans hcls.1)
    subst hcomp
    obtain ⟨kC, hkC, -⟩ := hcls.2
    refine W.aast hC.1 hC.2.1 (h3.1 _ _ _ hk e1) (fun q h => by cases h) (fun h => by cases h) k1 k2 rfl hkC ⟨h0, by show _ < (arrV _ _ _).slots.size; rw [arrV_size]; exact hlt⟩ c1 (fun q h => by rw [c3] at h; cases h) (by rw [c2]; exact hkC) (by rw [c2]; exact va_assign hcls) rfl rfl hd fun H1 g1 g2 g3 => ?_
    refine hK _ _ _ _ _ _ h t H1 _ ls cells slots h1 h2.up (h3.set e1 hk ?_ g2 g3 ?_) (x_locs h4 (h3.2.2.2.1 _ _ (x_some e1) hk)) h5 (h6.dm (x_dm.up x_dm.rf)) (h7.tl.tl.tl.dm (x_dm.up x_dm.rf)) h8 h9
    · intro k hk'
      show x_ok S (xv_o (va_up f j.toNatClampNeg (some v) k))
      unfold va_up
      split
      · exact h7.hd
      · exact (h3.2.1 _ _ _ e1 : ∀ j, j < n → x_ok S (xv_o (f j))) k hk'
    · show H1[t a.1 a.2]? = some (vp_cell _ _)
      rw [g1]
      show some ((vp_cell (G.2.1 q) (n, .inr (.inr (.inr (.inr (fun j => xz_o t (f j))))))).setSlot _ _) = some (vp_cell (G.2.1 q) (n, .inr (.inr (.inr (.inr _)))))
      rw [vp_cell_q, vp_cell_q, arrV_store]
      congr 2
      funext k
      by_cases hkk : k = j.toNatClampNeg
      · subst hkk
        simp [updV, va_up, va_rf, xz_o]
      · simp [updV, va_up, hkk]
  · exact h.elim
end XHP
