section XTH
variable {M : XM} {pc : Nat}
theorem x_atoms {E L : List Cond} (hE : ∀ w ∈ E, w ∈ x_Wd) (h : L.all (fun w => decide (w ∈ E) && vx_ot w) = true) : (∀ w ∈ L, w ∈ x_Wd) ∧ ∀ w ∈ L, vx_ot w = true := by
  refine ⟨fun w hw => ?_, fun w hw => ?_⟩
  · have := List.all_eq_true.mp h w hw
    rw [Bool.and_eq_true, decide_eq_true_eq] at this
    exact hE w this.1
  · have := List.all_eq_true.mp h w hw
    rw [Bool.and_eq_true] at this
    exact this.2
theorem x_outs {c : Code} {hs : List (Nat × Nat × Nat × Nat)} {q : Nat} (h : c.exceptionTable.toList = tableOf hs) (hh : (tableOf hs).all (fun x => !covers x q) = true) : ∀ z ∈ c.exceptionTable.toList, covers z q = false := fun z hz => by
  rw [h] at hz
  have hz2 := List.all_eq_true.mp hh z hz
  cases hcv : covers z q with
  | false => rfl
  | true => rw [hcv] at hz2; cases hz2
theorem xs_tnS {ci ik is ic N : Nat} {C text : String} {Tt : u_T} {names : List String} (d0 : decode M.2.1 pc = .ok (.new ik, 3)) (d3 : decode M.2.1 (pc + 3) = .ok (.dup, 1)) (d4 : decode M.2.1 (pc + 4) = .ok (.ldc is, 2)) (d6 : decode M.2.1 (pc + 6) = .ok (.invokespecial ic, 3)) (d9 : decode M.2.1 (pc + 9) = .ok (.athrow, 1))
    (hc : x_cls[ci]? = some (C, Tt, N)) (hN : N = 0) (hcls : Bundle.fit C = true) (hnames : ∀ n ∈ names, Bundle.fit n = true) (hstr : (M.1, is, text) ∈ x_strs) {E : List Cond} (hE : ∀ w ∈ E, w ∈ x_Wd) (hat : (Cond.classLink M.1 ik C :: Cond.initialized C :: vx_atS M.1 ic C names).all (fun w => decide (w ∈ E) && vx_ot w) = true)
    (hout : (tableOf M.2.2.2.2.2.1).all (fun x => !covers x (pc + 9)) = true) (hr : names.length + 3 < M.2.2.2.2.2.2.1 ∧ 8 + (13 * (names.length + 1) + 43) ≤ M.2.2.2.2.2.2.2) : XSnd M pc (X_tn ci) := by
  intro G p l e R s m args below meth c P t0 S0 htr0 hC K hK L st S u w h t H locs ls cells slots h1 h2 h3 h4 h5 h6 h7 h8 h9
  obtain ⟨hcs, hu, hw, k, i, hk, h0, hP⟩ := h
  obtain ⟨ha1, ha2⟩ := x_atoms hE hat
  have hts := hC.2.2.2.2.2.1
  have hX := hC.2.2.2.2.2.2.1.2.2
  obtain ⟨sa, hsa⟩ := hX.2.2.2.1 _ hstr
  intro T hT X
  have htr : e.platform.stackTraces = false := (show e.platform.stackTraces = l.stackTraces by rw [X.admits.platform]).trans htr0
  have Y := vx_rebase X (R' := { frames := R.frames, locals := R.locals, cells := 1, slots := 6 }) (Nat.le_refl _) (Nat.le_refl _) (by show cells + 1 ≤ _; omega) (by show slots + 6 ≤ _; omega)
  obtain ⟨s', hA⟩ : ∃ z, z = (T.setVm s.vm).setFrames (.invoking m args :: below) := ⟨_, rfl⟩
  rw [← hA] at Y
  have hvm : s'.vm = s.vm := by rw [hA]; rfl
  have hhp : s'.heap = H := by rw [hA]; exact hT
  have hW0 : s.WarmedH s'.vm := by rw [hvm]; exact State.WarmedH.refl s
  have hat' : ∀ w ∈ vx_atS M.1 ic C names, w.before args s' = true := fun w hw => vx_ot_at hW0 hvm.symm (ha2 w (List.mem_cons_of_mem _ (List.mem_cons_of_mem _ hw))) (hts w (ha1 w (List.mem_cons_of_mem _ (List.mem_cons_of_mem _ hw))))
  have hk' : (Cond.classLink M.1 ik C).before args s' = true := vx_ot_at hW0 hvm.symm (ha2 _ List.mem_cons_self) (hts _ (ha1 _ List.mem_cons_self))
  have hini' : (Cond.initialized C).before args s' = true := vx_ot_at hW0 hvm.symm (ha2 _ (List.mem_cons_of_mem _ List.mem_cons_self)) (hts _ (ha1 _ (List.mem_cons_of_mem _ List.mem_cons_self)))
  have hU' : vx_Zq Bundle.tN "UNASSIGNED_STACK" Bundle.steD (x_A G) s' s'.heap := by rw [hhp]; exact vx_Zq.moved hW0.alike (hX.2.2.2.2.1.kept (x_hq hX h3))
  have hN' : vx_Zq Bundle.tN "SUPPRESSED_SENTINEL" Bundle.listD (x_A G) s' s'.heap := by rw [hhp]; exact vx_Zq.moved hW0.alike (hX.2.2.2.2.2.1.kept (x_hq hX h3))
  have hh : ∀ w ∈ Bundle.ownAtoms M.1 ic C names, w.before args s' = true := vx_own hat' (vx_isRefq hU'.1) (vx_isRefq hN'.1) hU'.2.word hN'.2.word
  have hown' : s'.vm.findClass M.1 = some m.cls := by rw [hvm]; exact hC.2.2.2.2.1
  have hins : (Cond.instantiable C 6).before args s' = true := hh _ (by simp [Bundle.ownAtoms])
  have hb := hC.2.1
  obtain ⟨vm₁, cX, kX, hfX, hkX, -, -, X₁, st1⟩ := Y.newCold hC.1 (own := M.1) (C := C) (index := ik) (n := 6) hown' hk' hins hini'
    (g := F0 m pc ls (st.map (xz t))) rfl (by rw [hb]; exact d0) (Nat.le_refl _) (Nat.le_refl _)
  generalize hT1 : (T.setVm vm₁).pushCell { cls := cX, slots := kX.instanceTypes.map defaultValue, vm := .none } = T1 at X₁ st1
  have hcat : (Value.ref T.heap.size).category = 1 := rfl
  have hcellA : T1.heap[T.heap.size]? = some (freshCell cX kX) := by rw [← hT1]; exact State.heap_pushCell_size _ _
  have d3' : decode c.code (pc + 3) = .ok (.dup, 1) := by rw [hb]; exact d3
  have d4' : decode c.code (pc + 4) = .ok (.ldc is, 2) := by rw [hb]; exact d4
  have hstr' : vk_R M.1 is text sa s' := vk_R.warm hW0 hsa
  have hfr := hC.2.2.2.2.2.2.2.2.2.2.1
  have hlo := hC.2.2.2.2.2.2.2.2.2.2.2
  have hcc := x_cs_cat t st
  obtain ⟨U, hsteps, hrun, hend, hW, hsame, ce, hce, hO⟩ := X₁.ctorThrowS hC.1 htr (own := M.1) (cls := C) (names := names) (ic := ic) hown' hcls hnames hh (fun x hx => nomatch hx) hfX hkX hcellA (by rw [hhp, hT]; exact Nat.le_refl _) (msg := .ref sa) rfl
    (g := { method := m, pc := pc + 6, locals := ls, stack := .ref sa :: .ref T.heap.size :: .ref T.heap.size :: st.map (xz t), locked := none }) rfl (by rw [hC.2.2.1]; exact h5.1.1) rfl rfl (rest := st.map (xz t)) rfl
    (by rw [hb]; exact d6) (by rw [hb]; exact d9) (x_outs hC.2.2.2.2.2.2.2.2.2.1 hout) (by show names.length + 3 < R.frames; omega) (by simp only [List.map_cons, List.sum_cons, hcat, hcc]; show 2 * 0 + _ + _ ≤ R.locals; omega) hC.2.2.2.2.2.2.2.1
  have hcl : s.vm.findClass C = some ce.cls := by
    have h9 := hO.cls
    rw [hvm] at h9
    exact h9
  have hsz : U.heap.size ≤ T.heap.size + 1 := by
    have q := hsame.2.2.1
    have q2 : U.heap.size ≤ s'.heap.size + (0 + 1) := q
    rw [hhp, ← hT] at q2
    omega
  subst hA
  refine ⟨U, ?_, x_thrown hC hc hN X hT h1 h2 h3 h4 (by omega) (by omega) hk h0 hP hrun hend (State.WarmedH.trans hW0 hW) hsame hce hO.vm hcl hsz⟩
  refine st1 _ ?_
  show Steps p.tables e below (T1.setTop { method := m, pc := pc + 3, locals := ls, stack := .ref T.heap.size :: st.map (xz t), locked := none }) _
  jvm_step X₁.here [X₁.here.top, hC.1, d3', Value.category]
  exact X₁.ldcString hC.1 (own := M.1) (text := text) (index := is) (a := sa) hown' hstr'.1 hstr'.2
    (g := { method := m, pc := pc + 4, locals := ls, stack := .ref T.heap.size :: .ref T.heap.size :: st.map (xz t), locked := none }) rfl d4' _ hsteps
theorem xs_tn0 {ci ik ic N : Nat} {C : String} {Tt : u_T} {names : List String} (d0 : decode M.2.1 pc = .ok (.new ik, 3)) (d3 : decode M.2.1 (pc + 3) = .ok (.dup, 1)) (d4 : decode M.2.1 (pc + 4) = .ok (.invokespecial ic, 3)) (d7 : decode M.2.1 (pc + 7) = .ok (.athrow, 1))
    (hc : x_cls[ci]? = some (C, Tt, N)) (hN : N = 0) (hcls : Bundle.fit C = true) (hnames : ∀ n ∈ names, Bundle.fit n = true) {E : List Cond} (hE : ∀ w ∈ E, w ∈ x_Wd) (hat : (Cond.classLink M.1 ik C :: Cond.initialized C :: vx_at0 M.1 ic C names).all (fun w => decide (w ∈ E) && vx_ot w) = true)
    (hout : (tableOf M.2.2.2.2.2.1).all (fun x => !covers x (pc + 7)) = true) (hr : names.length + 3 < M.2.2.2.2.2.2.1 ∧ 8 + (13 * (names.length + 1) + 43) ≤ M.2.2.2.2.2.2.2) : XSnd M pc (X_tn ci) := by
  intro G p l e R s m args below meth c P t0 S0 htr0 hC K hK L st S u w h t H locs ls cells slots h1 h2 h3 h4 h5 h6 h7 h8 h9
  obtain ⟨hcs, hu, hw, k, i, hk, h0, hP⟩ := h
  obtain ⟨ha1, ha2⟩ := x_atoms hE hat
  have hts := hC.2.2.2.2.2.1
  have hX := hC.2.2.2.2.2.2.1.2.2
  intro T hT X
  have htr : e.platform.stackTraces = false := (show e.platform.stackTraces = l.stackTraces by rw [X.admits.platform]).trans htr0
  have Y := vx_rebase X (R' := { frames := R.frames, locals := R.locals, cells := 1, slots := 6 }) (Nat.le_refl _) (Nat.le_refl _) (by show cells + 1 ≤ _; omega) (by show slots + 6 ≤ _; omega)
  obtain ⟨s', hA⟩ : ∃ z, z = (T.setVm s.vm).setFrames (.invoking m args :: below) := ⟨_, rfl⟩
  rw [← hA] at Y
  have hvm : s'.vm = s.vm := by rw [hA]; rfl
  have hhp : s'.heap = H := by rw [hA]; exact hT
  have hW0 : s.WarmedH s'.vm := by rw [hvm]; exact State.WarmedH.refl s
  have hat' : ∀ w ∈ vx_at0 M.1 ic C names, w.before args s' = true := fun w hw => vx_ot_at hW0 hvm.symm (ha2 w (List.mem_cons_of_mem _ (List.mem_cons_of_mem _ hw))) (hts w (ha1 w (List.mem_cons_of_mem _ (List.mem_cons_of_mem _ hw))))
  have hk' : (Cond.classLink M.1 ik C).before args s' = true := vx_ot_at hW0 hvm.symm (ha2 _ List.mem_cons_self) (hts _ (ha1 _ List.mem_cons_self))
  have hini' : (Cond.initialized C).before args s' = true := vx_ot_at hW0 hvm.symm (ha2 _ (List.mem_cons_of_mem _ List.mem_cons_self)) (hts _ (ha1 _ (List.mem_cons_of_mem _ List.mem_cons_self)))
  have hU' : vx_Zq Bundle.tN "UNASSIGNED_STACK" Bundle.steD (x_A G) s' s'.heap := by rw [hhp]; exact vx_Zq.moved hW0.alike (hX.2.2.2.2.1.kept (x_hq hX h3))
  have hN' : vx_Zq Bundle.tN "SUPPRESSED_SENTINEL" Bundle.listD (x_A G) s' s'.heap := by rw [hhp]; exact vx_Zq.moved hW0.alike (hX.2.2.2.2.2.1.kept (x_hq hX h3))
  have hh : ∀ w ∈ Bundle.ownAtoms0 M.1 ic C names, w.before args s' = true := vx_own hat' (vx_isRefq hU'.1) (vx_isRefq hN'.1) hU'.2.word hN'.2.word
  have hown' : s'.vm.findClass M.1 = some m.cls := by rw [hvm]; exact hC.2.2.2.2.1
  have hins : (Cond.instantiable C 6).before args s' = true := hh _ (by simp [Bundle.ownAtoms0])
  have hb := hC.2.1
  obtain ⟨vm₁, cX, kX, hfX, hkX, -, -, X₁, st1⟩ := Y.newCold hC.1 (own := M.1) (C := C) (index := ik) (n := 6) hown' hk' hins hini'
    (g := F0 m pc ls (st.map (xz t))) rfl (by rw [hb]; exact d0) (Nat.le_refl _) (Nat.le_refl _)
  generalize hT1 : (T.setVm vm₁).pushCell { cls := cX, slots := kX.instanceTypes.map defaultValue, vm := .none } = T1 at X₁ st1
  have hcat : (Value.ref T.heap.size).category = 1 := rfl
  have hcellA : T1.heap[T.heap.size]? = some (freshCell cX kX) := by rw [← hT1]; exact State.heap_pushCell_size _ _
  have d3' : decode c.code (pc + 3) = .ok (.dup, 1) := by rw [hb]; exact d3
  have hfr := hC.2.2.2.2.2.2.2.2.2.2.1
  have hlo := hC.2.2.2.2.2.2.2.2.2.2.2
  have hcc := x_cs_cat t st
  obtain ⟨U, hsteps, hrun, hend, hW, hsame, ce, hce, hO⟩ := X₁.ctorThrow0 hC.1 htr (own := M.1) (cls := C) (names := names) (ic := ic) hown' hcls hnames hh (fun x hx => nomatch hx) hfX hkX hcellA (by rw [hhp, hT]; exact Nat.le_refl _)
    (g := { method := m, pc := pc + 4, locals := ls, stack := .ref T.heap.size :: .ref T.heap.size :: st.map (xz t), locked := none }) rfl (by rw [hC.2.2.1]; exact h5.1.1) rfl rfl (rest := st.map (xz t)) rfl
    (by rw [hb]; exact d4) (by rw [hb]; exact d7) (x_outs hC.2.2.2.2.2.2.2.2.2.1 hout) (by show names.length + 3 < R.frames; omega) (by simp only [List.map_cons, List.sum_cons, hcat, hcc]; show 2 * 0 + _ + _ ≤ R.locals; omega) hC.2.2.2.2.2.2.2.1
  have hcl : s.vm.findClass C = some ce.cls := by
    have h9 := hO.cls
    rw [hvm] at h9
    exact h9
  have hsz : U.heap.size ≤ T.heap.size + 1 := by
    have q := hsame.2.2.1
    have q2 : U.heap.size ≤ s'.heap.size + (0 + 1) := q
    rw [hhp, ← hT] at q2
    omega
  subst hA
  refine ⟨U, ?_, x_thrown hC hc hN X hT h1 h2 h3 h4 (by omega) (by omega) hk h0 hP hrun hend (State.WarmedH.trans hW0 hW) hsame hce hO.vm hcl hsz⟩
  refine st1 _ ?_
  show Steps p.tables e below (T1.setTop { method := m, pc := pc + 3, locals := ls, stack := .ref T.heap.size :: st.map (xz t), locked := none }) _
  jvm_step X₁.here [X₁.here.top, hC.1, d3', Value.category]
  exact hsteps
end XTH
