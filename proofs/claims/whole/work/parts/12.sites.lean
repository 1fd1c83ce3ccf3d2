/-! the sites of calls -/
section XSI
variable {M : XM} {pc : Nat}
theorem x_c1s {l : List XV} (h : l.all x_c1 = true) : ∀ v ∈ l.reverse, x_c1 v = true := fun v hv => List.all_eq_true.mp h v (List.mem_reverse.mp hv)
theorem x_take {S : XH} {st : List XV} (h : x_oks S st) (n : Nat) : x_oks S (st.take n).reverse := fun v hv => h v (List.mem_of_mem_take (List.mem_reverse.mp hv))
theorem x_drop {S : XH} {st : List XV} (h : x_oks S st) (n : Nat) : x_oks S (st.drop n) := fun v hv => h v (List.mem_of_mem_drop hv)
theorem xs_invV {ci n index N : Nat} {C : String} {T : u_T} {y : MethodName} {My : XM} {Y : XMeth} {hs : List (Nat × Nat)} (hd : decode M.2.1 pc = .ok (.invokevirtual index, 3)) (hc : x_cls[ci]? = some (C, T, N)) (hY : x_Snd y My Y) (his : x_Is y My)
    (hw : Cond.methodLink M.1 index y ∈ x_Wd ∧ Cond.instanceMethod y ∈ x_Wd ∧ Cond.selects C y y ∈ x_Wd ∧ Cond.initialized y.cls ∈ x_Wd) (hy : y.cls ≠ "java/lang/invoke/MethodHandle" ∧ y.cls ≠ "java/lang/invoke/VarHandle" ∧ (parseMethodDescriptor y.desc).map (fun d => d.parameters.length) = some n)
    (hr : n + 1 ≤ My.2.2.1 ∧ My.2.2.2.2.2.2.1 + 1 ≤ M.2.2.2.2.2.2.1 ∧ 8 + (My.2.2.1 + 11) + My.2.2.2.2.2.2.2 ≤ M.2.2.2.2.2.2.2) (hh : x_hok M pc hs) : XSnd M pc (X_invV ci Y n hs) := by
  intro G p l e R s m args below meth c P t0 S0 htr0 hC K hK L st S u w h t H locs ls cells slots h1 h2 h3 h4 h5 h6 h7 h8 h9
  unfold X_invV at h
  split at h
  · next q rest heq =>
    obtain ⟨h48, ⟨fs, e1⟩, hc1, hcs, mc, ms, hmc, hms, hrun⟩ := h
    have hts := hC.2.2.2.2.2.1
    have hd7 := x_drop h7 n
    rw [heq] at hd7
    have est : st.map (xz t) = ((st.take n).reverse.map (xz t)).reverse ++ .ref (t q.1 q.2) :: rest.map (xz t) := by
      rw [List.map_reverse, List.reverse_reverse]
      conv => lhs; rw [← List.take_append_drop n st, heq]
      rw [List.map_append]
      rfl
    have hlt : (st.take n).length = n := by
      have : n < st.length := by
        rcases Nat.lt_or_ge n st.length with z | z
        · exact z
        · rw [List.drop_eq_nil_of_le z] at heq
          cases heq
      rw [List.length_take]
      omega
    refine x_call (vs := xv_r q.1 q.2 :: (st.take n).reverse) (rest := rest) htr0 hC hY his hw.2.2.2 hd hr.2.1 hr.2.2 hh hK h1 h2 h3 h4 h5 h6 (x_oks.cons (x_some e1) (x_take h7 n)) ?_ ?_ hd7.tl hcs h8 h9 hmc hms hrun ?_
    · intro v hv
      rcases List.mem_cons.mp hv with rfl | hv
      · rfl
      · exact x_c1s hc1 v hv
    · rw [List.length_cons, List.length_reverse, hlt]
      exact hr.1
    · intro T' hT X
      obtain ⟨mk, methM, hnamed, hmethM, hstM, habM⟩ := Cond.instanceMethod_spec (hts _ hw.2.1)
      obtain ⟨mk', methM', cM, hn', hm', -, -, -, -, -, -, hsig⟩ := his args s hts
      cases hnamed.symm.trans hn'
      cases hmethM.symm.trans hm'
      obtain ⟨c2, r2, m2, q1, q2, q3, q4, kP, hkP, hkPi⟩ := Cond.selects_spec (hts _ hw.2.2.1)
      obtain ⟨r', g1, cellB, c1, cc2, c3, -⟩ := h3.1 _ _ _ h48 e1
      have hcls := (hC.2.2.2.2.2.2.1.1.1 ci _ hc).2.1
      have hcl2 : s.vm.findClass C = some cellB.cls := by rw [cc2]; exact hcls
      cases hcl2.symm.trans q1
      cases (State.methodFound?_of_named hnamed ⟨hy.1, hy.2.1⟩).symm.trans q2
      cases hnamed.symm.trans q3
      have hselP : selectMethod e.platform s.vm cellB.cls mk = .method mk := by rw [Launch.admits_selectMethod X.admits]; exact q4
      have hlen : ((st.take n).reverse.map (xz t)).length = methM.sig.parameters.length := by
        rw [List.length_map, List.length_reverse, hlt]
        have z := hy.2.2
        rw [hsig] at z
        exact (Option.some.inj z).symm
      obtain ⟨vm₁, X₁, hstep₁⟩ := X.invokevirtual hC.1 hC.2.2.2.2.1 (hts _ hw.1) hnamed hmethM hstM hkP hkPi ⟨hy.1, hy.2.1⟩ (a := t q.1 q.2) (cell := cellB) (by rw [hT]; exact c1)
        (fun z h => by rw [c3] at h; cases h) hselP hmethM habM hkP hkPi (g := F0 m pc ls (st.map (xz t))) rfl (argsL := (st.take n).reverse.map (xz t)) (rest := rest.map (xz t)) hlen est (by rw [hC.2.1]; exact hd)
      exact ⟨vm₁, mk, X₁, X₁.named hnamed, fun target h => hstep₁ _ h⟩
  · exact h.elim
theorem xs_invVN {ci n index N : Nat} {C host : String} {T : u_T} {y : MethodName} {My : XM} {Y : XMeth} {hs : List (Nat × Nat)} (hd : decode M.2.1 pc = .ok (.invokevirtual index, 3)) (hc : x_cls[ci]? = some (C, T, N)) (hY : x_Snd y My Y) (his : x_Is y My)
    (hw : Cond.methodLinkNest M.1 index y host ∈ x_Wd ∧ Cond.instanceMethod y ∈ x_Wd ∧ Cond.selects C y y ∈ x_Wd ∧ Cond.initialized y.cls ∈ x_Wd) (hy : y.cls ≠ "java/lang/invoke/MethodHandle" ∧ y.cls ≠ "java/lang/invoke/VarHandle" ∧ (parseMethodDescriptor y.desc).map (fun d => d.parameters.length) = some n)
    (hr : n + 1 ≤ My.2.2.1 ∧ My.2.2.2.2.2.2.1 + 1 ≤ M.2.2.2.2.2.2.1 ∧ 8 + (My.2.2.1 + 11) + My.2.2.2.2.2.2.2 ≤ M.2.2.2.2.2.2.2) (hh : x_hok M pc hs) : XSnd M pc (X_invV ci Y n hs) := by
  intro G p l e R s m args below meth c P t0 S0 htr0 hC K hK L st S u w h t H locs ls cells slots h1 h2 h3 h4 h5 h6 h7 h8 h9
  unfold X_invV at h
  split at h
  · next q rest heq =>
    obtain ⟨h48, ⟨fs, e1⟩, hc1, hcs, mc, ms, hmc, hms, hrun⟩ := h
    have hts := hC.2.2.2.2.2.1
    have hd7 := x_drop h7 n
    rw [heq] at hd7
    have est : st.map (xz t) = ((st.take n).reverse.map (xz t)).reverse ++ .ref (t q.1 q.2) :: rest.map (xz t) := by
      rw [List.map_reverse, List.reverse_reverse]
      conv => lhs; rw [← List.take_append_drop n st, heq]
      rw [List.map_append]
      rfl
    have hlt : (st.take n).length = n := by
      have : n < st.length := by
        rcases Nat.lt_or_ge n st.length with z | z
        · exact z
        · rw [List.drop_eq_nil_of_le z] at heq
          cases heq
      rw [List.length_take]
      omega
    refine x_call (vs := xv_r q.1 q.2 :: (st.take n).reverse) (rest := rest) htr0 hC hY his hw.2.2.2 hd hr.2.1 hr.2.2 hh hK h1 h2 h3 h4 h5 h6 (x_oks.cons (x_some e1) (x_take h7 n)) ?_ ?_ hd7.tl hcs h8 h9 hmc hms hrun ?_
    · intro v hv
      rcases List.mem_cons.mp hv with rfl | hv
      · rfl
      · exact x_c1s hc1 v hv
    · rw [List.length_cons, List.length_reverse, hlt]
      exact hr.1
    · intro T' hT X
      obtain ⟨mk, methM, hnamed, hmethM, hstM, habM⟩ := Cond.instanceMethod_spec (hts _ hw.2.1)
      obtain ⟨mk', methM', cM, hn', hm', -, -, -, -, -, -, hsig⟩ := his args s hts
      cases hnamed.symm.trans hn'
      cases hmethM.symm.trans hm'
      obtain ⟨c2, r2, m2, q1, q2, q3, q4, kP, hkP, hkPi⟩ := Cond.selects_spec (hts _ hw.2.2.1)
      obtain ⟨r', g1, cellB, c1, cc2, c3, -⟩ := h3.1 _ _ _ h48 e1
      have hcls := (hC.2.2.2.2.2.2.1.1.1 ci _ hc).2.1
      have hcl2 : s.vm.findClass C = some cellB.cls := by rw [cc2]; exact hcls
      cases hcl2.symm.trans q1
      cases (State.methodFound?_of_named hnamed ⟨hy.1, hy.2.1⟩).symm.trans q2
      cases hnamed.symm.trans q3
      have hselP : selectMethod e.platform s.vm cellB.cls mk = .method mk := by rw [Launch.admits_selectMethod X.admits]; exact q4
      have hlen : ((st.take n).reverse.map (xz t)).length = methM.sig.parameters.length := by
        rw [List.length_map, List.length_reverse, hlt]
        have z := hy.2.2
        rw [hsig] at z
        exact (Option.some.inj z).symm
      obtain ⟨vm₁, X₁, hstep₁⟩ := X.invokevirtualNest hC.1 hC.2.2.2.2.1 (hts _ hw.1) hnamed hmethM hstM hkP hkPi ⟨hy.1, hy.2.1⟩ (a := t q.1 q.2) (cell := cellB) (by rw [hT]; exact c1)
        (fun z h => by rw [c3] at h; cases h) hselP hmethM habM hkP hkPi (g := F0 m pc ls (st.map (xz t))) rfl (argsL := (st.take n).reverse.map (xz t)) (rest := rest.map (xz t)) hlen est (by rw [hC.2.1]; exact hd)
      exact ⟨vm₁, mk, X₁, X₁.named hnamed, fun target h => hstep₁ _ h⟩
  · exact h.elim
theorem xs_invS {n index : Nat} {y : MethodName} {My : XM} {Y : XMeth} {hs : List (Nat × Nat)} (hd : decode M.2.1 pc = .ok (.invokestatic index, 3)) (hY : x_Snd y My Y) (his : x_Is y My)
    (hw : Cond.methodLink M.1 index y ∈ x_Wd ∧ Cond.static y ∈ x_Wd ∧ Cond.initialized y.cls ∈ x_Wd) (hy : y.cls ≠ "java/lang/invoke/MethodHandle" ∧ y.cls ≠ "java/lang/invoke/VarHandle" ∧ (parseMethodDescriptor y.desc).map (fun d => d.parameters.length) = some n)
    (hr : n ≤ My.2.2.1 ∧ My.2.2.2.2.2.2.1 + 1 ≤ M.2.2.2.2.2.2.1 ∧ 8 + (My.2.2.1 + 11) + My.2.2.2.2.2.2.2 ≤ M.2.2.2.2.2.2.2) (hh : x_hok M pc hs) : XSnd M pc (X_invS Y n hs) := by
  intro G p l e R s m args below meth c P t0 S0 htr0 hC K hK L st S u w h t H locs ls cells slots h1 h2 h3 h4 h5 h6 h7 h8 h9
  obtain ⟨hnl, hc1, hcs, mc, ms, hmc, hms, hrun⟩ := h
  have hts := hC.2.2.2.2.2.1
  have est : st.map (xz t) = ((st.take n).reverse.map (xz t)).reverse ++ (st.drop n).map (xz t) := by
    rw [List.map_reverse, List.reverse_reverse, ← List.map_append, List.take_append_drop]
  have hlt : (st.take n).length = n := by
    rw [List.length_take]
    omega
  refine x_call (vs := (st.take n).reverse) (rest := st.drop n) htr0 hC hY his hw.2.2 hd hr.2.1 hr.2.2 hh hK h1 h2 h3 h4 h5 h6 (x_take h7 n) (x_c1s hc1) ?_ (x_drop h7 n) hcs h8 h9 hmc hms hrun ?_
  · rw [List.length_reverse, hlt]
    exact hr.1
  · intro T' hT X
    obtain ⟨mk, methM, cM, hnamed, hmethM, -, -, -, -, -, -, hsig⟩ := his args s hts
    have hstatic : methM.isStatic = true := Cond.static_spec hnamed hmethM (hts _ hw.2.1)
    obtain ⟨kP, hkP, -⟩ := className_of_methodNamed hnamed
    have hinitP : kP.init = .initialized := Cond.initialized_spec (findClass_of_methodNamed hnamed) hkP (hts _ hw.2.2)
    have hlen : ((st.take n).reverse.map (xz t)).length = methM.sig.parameters.length := by
      rw [List.length_map, List.length_reverse, hlt]
      have z := hy.2.2
      rw [hsig] at z
      exact (Option.some.inj z).symm
    obtain ⟨vm₁, X₁, hstep₁⟩ := X.invokestatic hC.1 hC.2.2.2.2.1 (hts _ hw.1) hnamed hmethM hstatic hkP hinitP ⟨hy.1, hy.2.1⟩ (g := F0 m pc ls (st.map (xz t))) rfl (argsL := (st.take n).reverse.map (xz t)) (rest := (st.drop n).map (xz t)) hlen est (by rw [hC.2.1]; exact hd)
    exact ⟨vm₁, mk, X₁, X₁.named hnamed, fun target h => hstep₁ _ h⟩
theorem xs_invSN {n index : Nat} {host : String} {y : MethodName} {My : XM} {Y : XMeth} {hs : List (Nat × Nat)} (hd : decode M.2.1 pc = .ok (.invokestatic index, 3)) (hY : x_Snd y My Y) (his : x_Is y My)
    (hw : Cond.methodLinkNest M.1 index y host ∈ x_Wd ∧ Cond.static y ∈ x_Wd ∧ Cond.initialized y.cls ∈ x_Wd) (hy : y.cls ≠ "java/lang/invoke/MethodHandle" ∧ y.cls ≠ "java/lang/invoke/VarHandle" ∧ (parseMethodDescriptor y.desc).map (fun d => d.parameters.length) = some n)
    (hr : n ≤ My.2.2.1 ∧ My.2.2.2.2.2.2.1 + 1 ≤ M.2.2.2.2.2.2.1 ∧ 8 + (My.2.2.1 + 11) + My.2.2.2.2.2.2.2 ≤ M.2.2.2.2.2.2.2) (hh : x_hok M pc hs) : XSnd M pc (X_invS Y n hs) := by
  intro G p l e R s m args below meth c P t0 S0 htr0 hC K hK L st S u w h t H locs ls cells slots h1 h2 h3 h4 h5 h6 h7 h8 h9
  obtain ⟨hnl, hc1, hcs, mc, ms, hmc, hms, hrun⟩ := h
  have hts := hC.2.2.2.2.2.1
  have est : st.map (xz t) = ((st.take n).reverse.map (xz t)).reverse ++ (st.drop n).map (xz t) := by
    rw [List.map_reverse, List.reverse_reverse, ← List.map_append, List.take_append_drop]
  have hlt : (st.take n).length = n := by
    rw [List.length_take]
    omega
  refine x_call (vs := (st.take n).reverse) (rest := st.drop n) htr0 hC hY his hw.2.2 hd hr.2.1 hr.2.2 hh hK h1 h2 h3 h4 h5 h6 (x_take h7 n) (x_c1s hc1) ?_ (x_drop h7 n) hcs h8 h9 hmc hms hrun ?_
  · rw [List.length_reverse, hlt]
    exact hr.1
  · intro T' hT X
    obtain ⟨mk, methM, cM, hnamed, hmethM, -, -, -, -, -, -, hsig⟩ := his args s hts
    have hstatic : methM.isStatic = true := Cond.static_spec hnamed hmethM (hts _ hw.2.1)
    obtain ⟨kP, hkP, -⟩ := className_of_methodNamed hnamed
    have hinitP : kP.init = .initialized := Cond.initialized_spec (findClass_of_methodNamed hnamed) hkP (hts _ hw.2.2)
    have hlen : ((st.take n).reverse.map (xz t)).length = methM.sig.parameters.length := by
      rw [List.length_map, List.length_reverse, hlt]
      have z := hy.2.2
      rw [hsig] at z
      exact (Option.some.inj z).symm
    obtain ⟨vm₁, X₁, hstep₁⟩ := X.invokestaticNest hC.1 hC.2.2.2.2.1 (hts _ hw.1) hnamed hmethM hstatic hkP hinitP ⟨hy.1, hy.2.1⟩ (g := F0 m pc ls (st.map (xz t))) rfl (argsL := (st.take n).reverse.map (xz t)) (rest := (st.drop n).map (xz t)) hlen est (by rw [hC.2.1]; exact hd)
    exact ⟨vm₁, mk, X₁, X₁.named hnamed, fun target h => hstep₁ _ h⟩
theorem xs_invI {n index nL : Nat} {y : MethodName} {cc : ByteArray} {My : XM} {Y : XMeth} {hs : List (Nat × Nat)} (hd : decode M.2.1 pc = .ok (.invokespecial index, 3)) (hY : x_Snd y My Y) (his : x_Is y My)
    (hw : Cond.methodLink M.1 index y ∈ x_Wd ∧ Cond.instanceMethod y ∈ x_Wd ∧ Cond.code y cc nL none ∈ x_Wd ∧ Cond.initialized y.cls ∈ x_Wd) (hy : y.cls ≠ "java/lang/invoke/MethodHandle" ∧ y.cls ≠ "java/lang/invoke/VarHandle" ∧ (parseMethodDescriptor y.desc).map (fun d => d.parameters.length) = some n) (hyn : y.name = "<init>")
    (hr : n + 1 ≤ My.2.2.1 ∧ My.2.2.2.2.2.2.1 + 1 ≤ M.2.2.2.2.2.2.1 ∧ 8 + (My.2.2.1 + 11) + My.2.2.2.2.2.2.2 ≤ M.2.2.2.2.2.2.2) (hh : x_hok M pc hs) : XSnd M pc (X_invI Y n hs) := by
  intro G p l e R s m args below meth c P t0 S0 htr0 hC K hK L st S u w h t H locs ls cells slots h1 h2 h3 h4 h5 h6 h7 h8 h9
  unfold X_invI at h
  split at h
  · next q rest heq =>
    obtain ⟨hc1, hcs, mc, ms, hmc, hms, hrun⟩ := h
    have hts := hC.2.2.2.2.2.1
    have hd7 := x_drop h7 n
    rw [heq] at hd7
    have est : st.map (xz t) = ((st.take n).reverse.map (xz t)).reverse ++ .ref (t q.1 q.2) :: rest.map (xz t) := by
      rw [List.map_reverse, List.reverse_reverse]
      conv => lhs; rw [← List.take_append_drop n st, heq]
      rw [List.map_append]
      rfl
    have hlt : (st.take n).length = n := by
      have : n < st.length := by
        rcases Nat.lt_or_ge n st.length with z | z
        · exact z
        · rw [List.drop_eq_nil_of_le z] at heq
          cases heq
      rw [List.length_take]
      omega
    refine x_call (vs := xv_r q.1 q.2 :: (st.take n).reverse) (rest := rest) htr0 hC hY his hw.2.2.2 hd hr.2.1 hr.2.2 hh hK h1 h2 h3 h4 h5 h6 (x_oks.cons hd7.hd (x_take h7 n)) ?_ ?_ hd7.tl hcs h8 h9 hmc hms hrun ?_
    · intro v hv
      rcases List.mem_cons.mp hv with rfl | hv
      · rfl
      · exact x_c1s hc1 v hv
    · rw [List.length_cons, List.length_reverse, hlt]
      exact hr.1
    · intro T' hT X
      have hpl : e.platform.magicAccessors = ({} : Platform).magicAccessors := by rw [X.admits.platform]
      have hlen : ∀ sig, parseMethodDescriptor y.desc = some sig → ((st.take n).reverse.map (xz t)).length = sig.parameters.length := fun sig hsig => by
        rw [List.length_map, List.length_reverse, hlt]
        have z := hy.2.2
        rw [hsig] at z
        exact (Option.some.inj z).symm
      obtain ⟨mk, methM, cM, kP, vm₁, hnamed, hmethM, hcodeM, -, hlocalsM, -, hkP, -, hW₁, hstep₁⟩ := Steps.initColdArgs (e := e) X.here hC.1 X.warmed hpl hC.2.2.2.2.1 hyn ⟨hy.1, hy.2.1⟩ (hts _ hw.1) (hts _ hw.2.1) (hts _ hw.2.2.1) (f := F0 m pc ls (st.map (xz t))) rfl hlen est (by rw [hC.2.1]; exact hd)
      exact ⟨vm₁, mk, X.noted hW₁, (X.noted hW₁).named hnamed, fun target h => hstep₁ _ h⟩
  · exact h.elim
theorem xs_invIN {n index nL : Nat} {host : String} {y : MethodName} {cc : ByteArray} {My : XM} {Y : XMeth} {hs : List (Nat × Nat)} (hd : decode M.2.1 pc = .ok (.invokespecial index, 3)) (hY : x_Snd y My Y) (his : x_Is y My)
    (hw : Cond.methodLinkNest M.1 index y host ∈ x_Wd ∧ Cond.instanceMethod y ∈ x_Wd ∧ Cond.code y cc nL none ∈ x_Wd ∧ Cond.initialized y.cls ∈ x_Wd) (hy : y.cls ≠ "java/lang/invoke/MethodHandle" ∧ y.cls ≠ "java/lang/invoke/VarHandle" ∧ (parseMethodDescriptor y.desc).map (fun d => d.parameters.length) = some n) (hyn : y.name = "<init>")
    (hr : n + 1 ≤ My.2.2.1 ∧ My.2.2.2.2.2.2.1 + 1 ≤ M.2.2.2.2.2.2.1 ∧ 8 + (My.2.2.1 + 11) + My.2.2.2.2.2.2.2 ≤ M.2.2.2.2.2.2.2) (hh : x_hok M pc hs) : XSnd M pc (X_invI Y n hs) := by
  intro G p l e R s m args below meth c P t0 S0 htr0 hC K hK L st S u w h t H locs ls cells slots h1 h2 h3 h4 h5 h6 h7 h8 h9
  unfold X_invI at h
  split at h
  · next q rest heq =>
    obtain ⟨hc1, hcs, mc, ms, hmc, hms, hrun⟩ := h
    have hts := hC.2.2.2.2.2.1
    have hd7 := x_drop h7 n
    rw [heq] at hd7
    have est : st.map (xz t) = ((st.take n).reverse.map (xz t)).reverse ++ .ref (t q.1 q.2) :: rest.map (xz t) := by
      rw [List.map_reverse, List.reverse_reverse]
      conv => lhs; rw [← List.take_append_drop n st, heq]
      rw [List.map_append]
      rfl
    have hlt : (st.take n).length = n := by
      have : n < st.length := by
        rcases Nat.lt_or_ge n st.length with z | z
        · exact z
        · rw [List.drop_eq_nil_of_le z] at heq
          cases heq
      rw [List.length_take]
      omega
    refine x_call (vs := xv_r q.1 q.2 :: (st.take n).reverse) (rest := rest) htr0 hC hY his hw.2.2.2 hd hr.2.1 hr.2.2 hh hK h1 h2 h3 h4 h5 h6 (x_oks.cons hd7.hd (x_take h7 n)) ?_ ?_ hd7.tl hcs h8 h9 hmc hms hrun ?_
    · intro v hv
      rcases List.mem_cons.mp hv with rfl | hv
      · rfl
      · exact x_c1s hc1 v hv
    · rw [List.length_cons, List.length_reverse, hlt]
      exact hr.1
    · intro T' hT X
      have hpl : e.platform.magicAccessors = ({} : Platform).magicAccessors := by rw [X.admits.platform]
      have hlen : ∀ sig, parseMethodDescriptor y.desc = some sig → ((st.take n).reverse.map (xz t)).length = sig.parameters.length := fun sig hsig => by
        rw [List.length_map, List.length_reverse, hlt]
        have z := hy.2.2
        rw [hsig] at z
        exact (Option.some.inj z).symm
      obtain ⟨mk, methM, cM, kP, vm₁, hnamed, hmethM, hcodeM, -, hlocalsM, -, hkP, -, hW₁, hstep₁⟩ := Steps.initColdArgsNest (e := e) X.here hC.1 X.warmed hpl hC.2.2.2.2.1 hyn ⟨hy.1, hy.2.1⟩ (hts _ hw.1) (hts _ hw.2.1) (hts _ hw.2.2.1) (f := F0 m pc ls (st.map (xz t))) rfl hlen est (by rw [hC.2.1]; exact hd)
      exact ⟨vm₁, mk, X.noted hW₁, (X.noted hW₁).named hnamed, fun target h => hstep₁ _ h⟩
  · exact h.elim
theorem xs_obj {index : Nat} (hd : decode M.2.1 pc = .ok (.invokespecial index, 3)) (hw : Cond.methodLink M.1 index Lib.objectInit ∈ x_Wd ∧ Cond.instanceMethod Lib.objectInit ∈ x_Wd ∧ Cond.code Lib.objectInit ⟨#[0xb1]⟩ 1 none ∈ x_Wd) (hr : 1 ≤ M.2.2.2.2.2.2.1 ∧ 20 ≤ M.2.2.2.2.2.2.2) : XSnd M pc X_obj := by
  intro G p l e R s m args below meth c P t0 S0 htr0 hC K hK L st S u w h t H locs ls cells slots h1 h2 h3 h4 h5 h6 h7 h8 h9
  unfold X_obj at h
  split at h
  · have hts := hC.2.2.2.2.2.1
    refine W.objInit hC.1 hC.2.1 hC.2.2.2.2.1 (hts _ hw.1) (hts _ hw.2.1) (hts _ hw.2.2) rfl (by rw [hC.2.2.1]; exact h5.1.1) rfl hd (Nat.le_trans hr.1 hC.2.2.2.2.2.2.2.2.2.2.1) ?_ (hK _ _ _ _ _ _ h.2 t H locs ls cells slots h1 h2 h3 h4 h5 h6 h7.tl h8 h9)
    show 2 * 0 + _ + 12 ≤ _
    rw [x_cs_cat]
    have := Nat.le_trans hr.2 hC.2.2.2.2.2.2.2.2.2.2.2
    omega
  · exact h.elim
end XSI
