/-! statics, read-only objects, casts, arrays of Object, throwing -/
def X_bad : XI := fun _ _ _ _ _ _ _ _ => False
theorem xm_bad : XMon X_bad := fun _ _ _ _ _ _ _ _ _ _ _ _ h => h.elim
def X_getE (ci j : Nat) : XI := fun K _ pc L st S u w => match st with
  | .inr (.inr (some q)) :: r => ¬ q.1 < 48 ∧ ∃ fs v, S q.1 q.2 = some (.inl (ci, fs)) ∧ fs[j]? = some v ∧ K (pc + 3) L (v :: r) S u w
  | _ => False
theorem xm_getE {ci j : Nat} : XMon (X_getE ci j) := by
  intro K K' P P' pc L st S u w hK hP h
  unfold X_getE at h ⊢
  split at h
  · obtain ⟨e0, fs, v, e1, e2, h⟩ := h
    exact ⟨e0, fs, v, e1, e2, hK _ _ _ _ _ _ h⟩
  · exact h.elim
/-- a cast that succeeds: of null, or of an object of class ci -/
def X_cast (ci : Nat) : XI := fun K _ pc L st S u w => match st with
  | .inr (.inr none) :: r => K (pc + 3) L (.inr (.inr none) :: r) S u w
  | .inr (.inr (some q)) :: r => q.1 < 48 ∧ (∃ fs, S q.1 q.2 = some (.inl (ci, fs))) ∧ K (pc + 3) L (.inr (.inr (some q)) :: r) S u w
  | _ => False
theorem xm_cast {ci : Nat} : XMon (X_cast ci) := by
  intro K K' P P' pc L st S u w hK hP h
  unfold X_cast at h ⊢
  split at h
  · exact hK _ _ _ _ _ _ h
  · exact ⟨h.1, h.2.1, hK _ _ _ _ _ _ h.2.2⟩
  · exact h.elim
def X_tn (ci : Nat) : XI := fun _ P _ _ st S u w => x_cs st ≤ 8 ∧ 1 ≤ u ∧ 6 ≤ w ∧ ∃ k i, k < 48 ∧ S k i = none ∧ P (.inr (k, i)) (x_up S k i (.inl (ci, [])))
theorem xm_tn {ci : Nat} : XMon (X_tn ci) := by
  intro K K' P P' pc L st S u w hK hP h
  obtain ⟨a0, a1, a2, k, i, e1, e2, h⟩ := h
  exact ⟨a0, a1, a2, k, i, e1, e2, hP _ _ h⟩
/-- Math.min, Math.max -/
def X_mm (f : Int32 → Int32 → Int32) : XI := fun K _ pc L st S u w => match st with
  | .inl y :: .inl x :: r => x_cs r ≤ 8 ∧ K (pc + 3) L (.inl (f x y) :: r) S u w
  | _ => False
theorem xm_mm {f : Int32 → Int32 → Int32} : XMon (X_mm f) := by
  intro K K' P P' pc L st S u w hK hP h
  unfold X_mm at h ⊢
  split at h
  · exact ⟨h.1, hK _ _ _ _ _ _ h.2⟩
  · exact h.elim
section XRO
variable {M : XM} {pc : Nat}
theorem xs_bad : XSnd M pc X_bad := fun _ _ _ _ _ _ _ _ _ _ _ _ _ _ _ _ _ _ _ _ _ _ _ h => h.elim
theorem xs_gets {C n d ref : String} {v : XV} {index : Nat} (hd : decode M.2.1 pc = .ok (.getstatic index, 3)) (hq : (C, n, d, v) ∈ x_sts) (hl : Cond.fieldLink M.1 index ref n d ∈ x_Wd) (hs : x_same ref C n d) : XSnd M pc (X_push v 3) := by
  intro G p l e R s m args below meth c P t0 S0 htr0 hC K hK L st S u w h t H locs ls cells slots h1 h2 h3 h4 h5 h6 h7 h8 h9
  have hX := hC.2.2.2.2.2.2.1.2.2
  obtain ⟨q1, q2⟩ := hX.2.2.1 _ hq
  have hnw : x_nw v := by
    rcases v with x | x | r
    · trivial
    · trivial
    · cases r with
      | none => trivial
      | some r => exact (q2 r.1 r.2 rfl).1
  have hok : x_ok S v := by
    rcases v with x | x | r
    · trivial
    · trivial
    · cases r with
      | none => trivial
      | some r =>
        obtain ⟨a1, a2⟩ := q2 r.1 r.2 rfl
        show S r.1 r.2 ≠ none
        rw [(h3.2.2.2.2.2.2 r.1 r.2 a1).1]
        exact a2
  have kk := hK _ _ _ _ _ _ h t H locs ls cells slots h1 h2 h3 h4 h5 h6 (x_oks.cons hok h7) h8 h9
  rw [List.map_cons, x_nw_z h3 hnw hok] at kk
  obtain ⟨cf, kf, fi, f, a, cell, z1, z2, z3, z4, z5, z6, z7, z8⟩ := va_Z.kept q1 (x_hq hX h3)
  exact W.gets hC.1 hC.2.1 hC.2.2.2.2.1 (hC.2.2.2.2.2.1 _ hl) (hs.use hC.2.2.2.2.2.1 _ z1) z2 z3 z4 z5 (fun e => by rw [e] at z6; cases z6) z7 rfl hd kk
theorem xs_getE {ci j index : Nat} {o n d ref : String} (hd : decode M.2.1 pc = .ok (.getfield index, 3)) (hf : x_rof ci j = some (o, n, d)) (hl : Cond.fieldLink M.1 index ref n d ∈ x_Wd) (hs : x_same ref o n d) : XSnd M pc (X_getE ci j) := by
  intro G p l e R s m args below meth c P t0 S0 htr0 hC K hK L st S u w h t H locs ls cells slots h1 h2 h3 h4 h5 h6 h7 h8 h9
  unfold X_getE at h
  split at h
  · next q r =>
    obtain ⟨h48, fs, v, e1, e2, h⟩ := h
    have hX := hC.2.2.2.2.2.2.1.2.2
    obtain ⟨z1, z2⟩ := h3.2.2.2.2.2.2 _ _ h48
    have n5 : q.1 < 55 := by
      rcases Nat.lt_or_ge q.1 55 with z | z
      · exact z
      · have := (hX.2.2.2.2.2.2.2.2.1 _ _ _ (by omega) (z1.symm.trans e1)).1
        cases this
        cases e2
    obtain ⟨y1, y2, y3⟩ := hX.2.1 _ _ _ _ h48 n5 (z1.symm.trans e1)
    have hok : x_ok S v := x_okf h3 e1 e2
    have kk := hK _ _ _ _ _ _ h t H locs ls cells slots h1 h2 h3 h4 h5 h6 (x_oks.cons hok h7.tl) h8 h9
    rw [List.map_cons, x_nw_z h3 (y2 v (List.mem_of_getElem? e2)) hok] at kk
    obtain ⟨cf, k, fi, f, cell, c1, c2, c3, c4, c5, c6⟩ := (y3 j o n d v hf e2).kept (x_hq hX h3)
    have ea : t q.1 q.2 = G.2.2.2.2.1 q.1 q.2 := (z2 (x_some e1)).1
    show W p l e R s m args below meth c H locs cells slots _ (F0 m pc ls (.ref (t q.1 q.2) :: r.map (xz t)))
    rw [ea]
    exact W.getf hC.1 hC.2.1 hC.2.2.2.2.1 (hC.2.2.2.2.2.1 _ hl) (hs.use hC.2.2.2.2.2.1 _ c1) c2 c3 c4 c5 rfl rfl hd kk
  · exact h.elim
theorem xs_cast {ci index N : Nat} {C nm : String} {T : u_T} (hd : decode M.2.1 pc = .ok (.checkcast index, 3)) (hc : x_cls[ci]? = some (C, T, N)) (hl : Cond.classLink M.1 index nm ∈ x_Wd) (hca : Cond.castable C nm ∈ x_Wd) : XSnd M pc (X_cast ci) := by
  intro G p l e R s m args below meth c P t0 S0 htr0 hC K hK L st S u w h t H locs ls cells slots h1 h2 h3 h4 h5 h6 h7 h8 h9
  unfold X_cast at h
  split at h
  · exact lv_castN hC.1 hC.2.1 hd (hK _ _ _ _ _ _ h t H locs ls cells slots h1 h2 h3 h4 h5 h6 h7 h8 h9)
  · next q r =>
    obtain ⟨h48, ⟨fs, e1⟩, h⟩ := h
    obtain ⟨r', g1, cellB, c1, cc2, c3, -⟩ := h3.1 _ _ _ h48 e1
    have hcls := (hC.2.2.2.2.2.2.1.1.1 ci _ hc).2.1
    exact va_castY hC.1 hC.2.1 hC.2.2.2.2.1 (hC.2.2.2.2.2.1 _ hl) (C := C) (va_Nw.of rfl (hC.2.2.2.2.2.1 _ hca)) ⟨cellB, c1, by rw [c3]; rfl, by rw [cc2]; exact hcls⟩ hd (hK _ _ _ _ _ _ h t H locs ls cells slots h1 h2 h3 h4 h5 h6 h7 h8 h9)
  · exact h.elim
/-- a reference into an array of Object -/
theorem xs_aastO {q ci N : Nat} {C E : String} {T : u_T} (hd : decode M.2.1 pc = .ok (.aastore, 1)) (hq : x_tys[q]? = some (.object E)) (hc : x_cls[ci]? = some (C, T, N)) (hca : Cond.castable C E ∈ x_Wd) : XSnd M pc (X_aast q ci) := by
  intro G p l e R s m args below meth c P t0 S0 htr0 hC K hK L st S u w h t H locs ls cells slots h1 h2 h3 h4 h5 h6 h7 h8 h9
  unfold X_aast at h
  split at h
  · next v j a r =>
    obtain ⟨n, f, fs, e1, e2, hk, hkv, hj, h⟩ := h
    have hlt : j.toNatClampNeg < n := Nat.not_le.mp fun q => hj (Or.inr q)
    have h0 : ¬ j < 0 := fun q => hj (Or.inl q)
    obtain ⟨r', hr', cellV, c1, c2, c3, -⟩ := h3.1 _ _ _ hkv e2
    have hcls := (hC.2.2.2.2.2.2.1.1.1 ci _ hc).2
    obtain ⟨kA, comp, k1, k2, k3, -⟩ := (hC.2.2.2.2.2.2.1.2.1 q _ hq).2
    obtain ⟨kE, hkE, -⟩ := Vm.findClass_spec k3
    obtain ⟨x0, x1, f1, f2, f3⟩ := Cond.castable_spec (hC.2.2.2.2.2.1 _ hca)
    cases hcls.1.symm.trans f1
    cases k3.symm.trans f2
    obtain ⟨kC, hkC, -⟩ := hcls.2
    refine W.aast hC.1 hC.2.1 (h3.1 _ _ _ hk e1) (fun q h => by cases h) (fun h => by cases h) k1 k2 rfl hkE ⟨h0, by show _ < (arrV _ _ _).slots.size; rw [arrV_size]; exact hlt⟩ c1 (fun q h => by rw [c3] at h; cases h) (by rw [c2]; exact hkC) (by rw [c2]; exact f3) rfl rfl hd fun H1 g1 g2 g3 => ?_
    refine hK _ _ _ _ _ _ h t H1 _ ls cells slots h1 h2.up (h3.set e1 hk ?_ g2 g3 ?_) (x_locs h4 (h3.2.2.2.1 _ _ (x_some e1) hk)) h5 (h6.dm (x_dm.up x_dm.rf)) (h7.tl.tl.tl.dm (x_dm.up x_dm.rf)) h8 h9
    · intro k hk'
      show x_ok S (xv_o (va_up f j.toNatClampNeg (some v) k))
      unfold va_up
      split
      · exact h7.hd
      · exact (h3.2.1 _ _ _ e1 : ∀ j, j < n → x_ok S (xv_o (f j))) k hk'
    · show H1[t a.1 a.2]? = some (vp_cell _ _)
      rw [g1]
      show some ((vp_cell (G.2.1 q) (n, .inr (.inr (.inr (.inr (fun j => xz_o t (f j))))))).setSlot _ _) = some (vp_cell (G.2.1 q) (n, .inr (.inr (.inr (.inr _)))))
      rw [vp_cell_q, vp_cell_q, arrV_store]
      congr 2
      funext k
      by_cases hkk : k = j.toNatClampNeg
      · subst hkk
        simp [updV, va_up, va_rf, xz_o]
      · simp [updV, va_up, hkk]
  · exact h.elim
theorem xs_mmin {index : Nat} (hd : decode M.2.1 pc = .ok (.invokestatic index, 3)) (hw : Cond.methodLink M.1 index Lib.Math.min.name ∈ x_Wd ∧ Cond.static Lib.Math.min.name ∈ x_Wd ∧ Cond.initialized "java/lang/Math" ∈ x_Wd ∧ Cond.code Lib.Math.min.name Lib.Math.min.code 2 (some .int) ∈ x_Wd) (hr : 1 ≤ M.2.2.2.2.2.2.1 ∧ 21 ≤ M.2.2.2.2.2.2.2) : XSnd M pc (X_mm (fun x y => if y < x then y else x)) := by
  intro G p l e R s m args below meth c P t0 S0 htr0 hC K hK L st S u w h t H locs ls cells slots h1 h2 h3 h4 h5 h6 h7 h8 h9
  unfold X_mm at h
  split at h
  · have hts := hC.2.2.2.2.2.1
    have hfr := hC.2.2.2.2.2.2.2.2.2.2.1
    have hlo := hC.2.2.2.2.2.2.2.2.2.2.2
    exact va_mmin hC.1 hC.2.1 (hC.2.2.1.trans h5.1.1.symm) hC.2.2.2.2.1 (hts _ hw.1) (hts _ hw.2.1) (hts _ hw.2.2.1) (hts _ hw.2.2.2) (by omega) (by rw [x_cs_cat]; omega) (by omega) (by omega) hd (hK _ _ _ _ _ _ h.2 t H locs ls cells slots h1 h2 h3 h4 h5 h6 (x_oks.cons trivial h7.tl.tl) h8 h9)
  · exact h.elim
theorem xs_mmax {index : Nat} (hd : decode M.2.1 pc = .ok (.invokestatic index, 3)) (hw : Cond.methodLink M.1 index Lib.Math.max.name ∈ x_Wd ∧ Cond.static Lib.Math.max.name ∈ x_Wd ∧ Cond.initialized "java/lang/Math" ∈ x_Wd ∧ Cond.code Lib.Math.max.name Lib.Math.max.code 2 (some .int) ∈ x_Wd) (hr : 1 ≤ M.2.2.2.2.2.2.1 ∧ 21 ≤ M.2.2.2.2.2.2.2) : XSnd M pc (X_mm (fun x y => if x < y then y else x)) := by
  intro G p l e R s m args below meth c P t0 S0 htr0 hC K hK L st S u w h t H locs ls cells slots h1 h2 h3 h4 h5 h6 h7 h8 h9
  unfold X_mm at h
  split at h
  · have hts := hC.2.2.2.2.2.1
    have hfr := hC.2.2.2.2.2.2.2.2.2.2.1
    have hlo := hC.2.2.2.2.2.2.2.2.2.2.2
    exact va_mmax hC.1 hC.2.1 (hC.2.2.1.trans h5.1.1.symm) hC.2.2.2.2.1 (hts _ hw.1) (hts _ hw.2.1) (hts _ hw.2.2.1) (hts _ hw.2.2.2) (by omega) (by rw [x_cs_cat]; omega) (by omega) (by omega) hd (hK _ _ _ _ _ _ h.2 t H locs ls cells slots h1 h2 h3 h4 h5 h6 (x_oks.cons trivial h7.tl.tl) h8 h9)
  · exact h.elim
/-- 'throw new E("text")' and 'throw new E()' leave the method -/
theorem x_thrown {G : XG} {p : Program} {l : Launch} {e : Env} {R : Room} {s : State} {m : MethodId} {args : Array Value} {below : List Frame} {meth : Method} {c : Code} {P : XP} {t0 t : XT} {S0 S : XH} {H : Heap} {locs : List Loc} {cells slots k i ci N : Nat} {C : String} {Tt : u_T} {T U : State}
    (hC : x_C G M p R s m args meth c) (hc : x_cls[ci]? = some (C, Tt, N)) (hN : N = 0) (X : Stand p l e R s m args below meth c T locs cells slots) (hT : T.heap = H) (h1 : x_ag t0 t S0) (h2 : x_dm S0 S) (h3 : x_R G t S H) (h4 : ∀ q ∈ locs, G.2.2.1 ≤ q.base) (h8 : cells + 1 ≤ R.cells) (h9 : slots + 6 ≤ R.slots) (hk : k < 48) (h0 : S k i = none) (hP : P (.inr (k, i)) (x_up S k i (.inl (ci, []))))
    (hrun : U.status = .running) (hend : Ended U below (.threw T.heap.size)) (hW : s.WarmedH U.vm) (hsame : ((T.setVm s.vm).setFrames (.invoking m args :: below)).sameButNew ({ U with vm := ((T.setVm s.vm).setFrames (.invoking m args :: below)).vm } : State) [] (0 + 1) (0 + 6)) {ce : Cell} (hce : U.heap[T.heap.size]? = some ce) (hcv : ce.vm = .none) (hcl : s.vm.findClass C = some ce.cls) (hsz : U.heap.size ≤ T.heap.size + 1) :
    x_Q G below P t0 S0 s R.cells R.slots U := by
  obtain ⟨f1, f2⟩ := vx_frame hsame
  have hhp : ((T.setVm s.vm).setFrames (.invoking m args :: below)).heap = H := hT
  rw [hhp] at f1 f2
  have hall : s.sameButNew ({ U with vm := s.vm } : State) locs R.cells R.slots := by
    obtain ⟨e1, e2⟩ := hsame
    rw [State.setFrames_setFrames] at e1
    have z2 : (T.setVm s.vm).sameButNew ({ U with vm := s.vm } : State) [] (0 + 1) (0 + 6) := ⟨e1, e2⟩
    have z3 := X.same.trans z2
    rw [List.append_nil] at z3
    exact z3.mono (by omega) (by omega)
  rw [hT] at hce hsz hend
  have hg2 : U.heap.size = H.size + 1 := by
    have := (Array.getElem?_eq_some_iff.mp hce).1
    omega
  have hcls := (hC.2.2.2.2.2.2.1.1.1 ci _ hc).2.1
  obtain ⟨r1, r2⟩ := h3.new (c := .inl (ci, [])) hk h0 hg2 (fun q hq => f2 q hq (fun z hz => nomatch hz)) (fun v hv => by cases hv) ⟨_, hc, ce, hce, Option.some.inj (hcl.symm.trans hcls), hcv, fun j hj => by subst hN; exact absurd hj (Nat.not_lt_zero j)⟩
  refine ⟨.threw H.size, hrun, hend, ⟨x_ut t k i H.size, x_up S k i (.inl (ci, [])), fun a b q => (r2 a b (h2 a b q)).trans (h1 a b q), h2.up, r1, Or.inr ⟨k, i, by rw [x_ut_self], (by rw [x_up_self]; exact fun q => (by cases q)), hP⟩⟩, locs, ⟨hW, hall⟩, h4⟩
end XRO
