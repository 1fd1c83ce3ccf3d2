/-! null into an array of references, System.arraycopy, class objects, super calls, private calls, calls on what is read only, answers of bytes and chars -/
def X_aastN (q : Nat) : XI := fun K _ pc L st S u w => match st with
  | .inr (.inr none) :: .inl j :: .inr (.inr (some a)) :: r => ∃ n f, S a.1 a.2 = some (.inr (q, n, .inr (.inr f))) ∧ a.1 < 48 ∧ vp_in j n ∧ K (pc + 1) L r (x_up S a.1 a.2 (.inr (q, n, .inr (.inr (va_up f j.toNatClampNeg none))))) u w
  | _ => False
theorem xm_aastN {q : Nat} : XMon (X_aastN q) := by
  intro K K' P P' pc L st S u w hK hP h
  unfold X_aastN at h ⊢
  split at h
  · obtain ⟨n, f, e1, e2, e3, h⟩ := h
    exact ⟨n, f, e1, e2, e3, hK _ _ _ _ _ _ h⟩
  · exact h.elim
/-- entries and messages alone, or null -/
def x_elO (S : XH) (f : Nat → Option (Nat × Nat)) (sp n : Nat) : Prop := ∀ i, i < n → ∀ q, f (sp + i) = some q → q.1 < 48 ∧ ∃ ci fs, (ci = 6 ∨ ci = 7) ∧ S q.1 q.2 = some (.inl (ci, fs))
/-- System.arraycopy between arrays of Object -/
def X_acpy : XI := fun K _ pc L st S u w => match st with
  | .inl n :: .inl dp :: .inr (.inr (some b)) :: .inl sp :: .inr (.inr (some a)) :: r => x_cs r ≤ 8 ∧ ∃ n0 f n1 g, S a.1 a.2 = some (.inr (3, n0, .inr (.inr f))) ∧ S b.1 b.2 = some (.inr (3, n1, .inr (.inr g))) ∧ a.1 < 48 ∧ b.1 < 48 ∧ ¬ sp < 0 ∧ ¬ dp < 0 ∧ ¬ n < 0 ∧ sp.toNatClampNeg + n.toNatClampNeg ≤ n0 ∧ dp.toNatClampNeg + n.toNatClampNeg ≤ n1 ∧ x_elO S f sp.toNatClampNeg n.toNatClampNeg ∧ K (pc + 3) L r (x_up S b.1 b.2 (.inr (3, n1, .inr (.inr (va_cpy f g sp.toNatClampNeg dp.toNatClampNeg n.toNatClampNeg))))) u w
  | _ => False
theorem xm_acpy : XMon X_acpy := by
  intro K K' P P' pc L st S u w hK hP h
  unfold X_acpy at h ⊢
  split at h
  · obtain ⟨e0, n0, f, n1, g, e1, e2, e3, e4, e5, e6, e7, e8, e9, e10, h⟩ := h
    exact ⟨e0, n0, f, n1, g, e1, e2, e3, e4, e5, e6, e7, e8, e9, e10, hK _ _ _ _ _ _ h⟩
  · exact h.elim
/-- System.arraycopy between arrays of bytes; the first may be read only -/
def X_acpyB : XI := fun K _ pc L st S u w => match st with
  | .inl n :: .inl dp :: .inr (.inr (some b)) :: .inl sp :: .inr (.inr (some a)) :: r => x_cs r ≤ 8 ∧ ∃ n0 f n1 g, S a.1 a.2 = some (.inr (2, n0, .inl f)) ∧ S b.1 b.2 = some (.inr (2, n1, .inl g)) ∧ b.1 < 48 ∧ ¬ sp < 0 ∧ ¬ dp < 0 ∧ ¬ n < 0 ∧ sp.toNatClampNeg + n.toNatClampNeg ≤ n0 ∧ dp.toNatClampNeg + n.toNatClampNeg ≤ n1 ∧ (∀ i, i < n.toNatClampNeg → -128 ≤ f (sp.toNatClampNeg + i) ∧ f (sp.toNatClampNeg + i) ≤ 127) ∧ K (pc + 3) L r (x_up S b.1 b.2 (.inr (2, n1, .inl (va_cpy f g sp.toNatClampNeg dp.toNatClampNeg n.toNatClampNeg)))) u w
  | _ => False
theorem xm_acpyB : XMon X_acpyB := by
  intro K K' P P' pc L st S u w hK hP h
  unfold X_acpyB at h ⊢
  split at h
  · obtain ⟨e0, n0, f, n1, g, e1, e2, e3, e4, e5, e6, e7, e8, e9, h⟩ := h
    exact ⟨e0, n0, f, n1, g, e1, e2, e3, e4, e5, e6, e7, e8, e9, hK _ _ _ _ _ _ h⟩
  · exact h.elim
/-- getClass of an array of Object; its class object stands at the place 55 0 -/
def X_getC : XI := fun K _ pc L st S u w => match st with
  | .inr (.inr (some a)) :: r => x_cs r ≤ 6 ∧ a.1 < 48 ∧ S 55 0 ≠ none ∧ ∃ n z, S a.1 a.2 = some (.inr (3, n, z)) ∧ K (pc + 3) L (xv_r 55 0 :: r) S u w
  | _ => False
theorem xm_getC : XMon X_getC := by
  intro K K' P P' pc L st S u w hK hP h
  unfold X_getC at h ⊢
  split at h
  · obtain ⟨e0, e1, e2, n, z, e3, h⟩ := h
    exact ⟨e0, e1, e2, n, z, e3, hK _ _ _ _ _ _ h⟩
  · exact h.elim
def X_ldcC (n : Nat) : XI := fun K _ pc L st S u w => S 55 0 ≠ none ∧ K (pc + n) L (xv_r 55 0 :: st) S u w
theorem xm_ldcC {n : Nat} : XMon (X_ldcC n) := fun K K' P P' pc L st S u w hK hP h => ⟨h.1, hK _ _ _ _ _ _ h.2⟩
/-- a static that holds null or some object, of which nothing is known -/
def X_fmt : XI := fun K _ pc L st S u w => K (pc + 3) L (xv_n :: st) S u w ∧ (S 56 0 ≠ none → K (pc + 3) L (xv_r 56 0 :: st) S u w)
theorem xm_fmt : XMon X_fmt := fun K K' P P' pc L st S u w hK hP h => ⟨hK _ _ _ _ _ _ h.1, fun q => hK _ _ _ _ _ _ (h.2 q)⟩
/-- of a byte, of a char -/
def X_bret : XI := fun _ P _ _ st S _ _ => match st with
  | [.inl x] => x = 0 ∧ P (.inl (some (.inl x))) S
  | _ => False
theorem xm_bret : XMon X_bret := by
  intro K K' P P' pc L st S u w hK hP h
  unfold X_bret at h ⊢
  split at h
  · exact ⟨h.1, hP _ _ h.2⟩
  · exact h.elim
def X_cret : XI := fun _ P _ _ st S _ _ => match st with
  | [.inl x] => x.toUInt32.toUInt16.toUInt32.toInt32 = x ∧ P (.inl (some (.inl x))) S
  | _ => False
theorem xm_cret : XMon X_cret := by
  intro K K' P P' pc L st S u w hK hP h
  unfold X_cret at h ⊢
  split at h
  · exact ⟨h.1, hP _ _ h.2⟩
  · exact h.elim
/-- a call on a read-only object -/
def X_invE (ci : Nat) (Y : XMeth) (n : Nat) (hs : List (Nat × Nat)) : XI := fun K P pc L st S u w => match st.drop n with
  | .inr (.inr (some q)) :: rest => ¬ q.1 < 48 ∧ q.1 < 55 ∧ (∃ fs, S q.1 q.2 = some (.inl (ci, fs))) ∧ (st.take n).all x_c1 = true ∧ x_cs rest ≤ 8 ∧ ∃ mc ms, mc ≤ u ∧ ms ≤ w ∧ Y mc ms (xv_r q.1 q.2 :: (st.take n).reverse) S (x_aft K P hs (pc + 3) L rest (u - mc) (w - ms))
  | _ => False
section XNW
variable {M : XM} {pc : Nat}
theorem xs_aastN {q : Nat} {C : String} (hd : decode M.2.1 pc = .ok (.aastore, 1)) (hq : x_tys[q]? = some (.object C)) : XSnd M pc (X_aastN q) := by
  intro G p l e R s m args below meth c P t0 S0 htr0 hC K hK L st S u w h t H locs ls cells slots h1 h2 h3 h4 h5 h6 h7 h8 h9
  unfold X_aastN at h
  split at h
  · next j a r =>
    obtain ⟨n, f, e1, hk, hj, h⟩ := h
    refine va_WaastN (C := C) hC.1 hC.2.1 (h3.1 _ _ _ hk e1) ((hC.2.2.2.2.2.2.1.2.1 q _ hq).1 n (fun j => va_rf (xz_o t (f j)))) (fun h => by cases h) (by show ¬ (j < 0 ∨ (arrV _ _ _).slots.size ≤ _); rw [arrV_size]; exact hj) rfl rfl hd fun H1 g1 g2 g3 => ?_
    refine hK _ _ _ _ _ _ h t H1 _ ls cells slots h1 h2.up (h3.set e1 hk ?_ g2 g3 ?_) (x_locs h4 (h3.2.2.2.1 _ _ (x_some e1) hk)) h5 (h6.dm (x_dm.up x_dm.rf)) (h7.tl.tl.tl.dm (x_dm.up x_dm.rf)) h8 h9
    · intro k hk'
      show x_ok S (xv_o (va_up f j.toNatClampNeg none k))
      unfold va_up
      split
      · trivial
      · exact (h3.2.1 _ _ _ e1 : ∀ j, j < n → x_ok S (xv_o (f j))) k hk'
    · show H1[t a.1 a.2]? = some (vp_cell _ _)
      rw [g1]
      show some ((vp_cell (G.2.1 q) (n, .inr (.inr (.inr (.inr (fun j => xz_o t (f j))))))).setSlot _ _) = some (vp_cell (G.2.1 q) (n, .inr (.inr (.inr (.inr _)))))
      rw [vp_cell_q, vp_cell_q, arrV_store]
      congr 2
      funext k
      by_cases hkk : k = j.toNatClampNeg
      · subst hkk
        simp [updV, va_up, va_rf, xz_o]
      · simp [updV, va_up, hkk]
  · exact h.elim
theorem x_nn : ∀ z : Int32, ¬ z < 0 → z.toInt = (z.toNatClampNeg : Int) := by
  intro z hz
  have hz0 : (0 : Int) ≤ z.toInt := by
    have := Int32.not_lt.mp hz
    simpa using Int32.le_iff_toInt_le.mp this
  show z.toInt = ((z.toInt.toNat : Nat) : Int)
  omega
theorem x_sysw : nativeFrameWords "java/lang/System" "arraycopy" 5 = 7 := by decide +kernel
theorem xs_acpy {index : Nat} (hd : decode M.2.1 pc = .ok (.invokestatic index, 3)) (hw : Cond.methodLink M.1 index arraycopyName ∈ x_Wd ∧ Cond.native arraycopyName ∈ x_Wd ∧ Cond.static arraycopyName ∈ x_Wd ∧ Cond.initialized "java/lang/System" ∈ x_Wd) (hr : 1 ≤ M.2.2.2.2.2.2.1 ∧ 26 ≤ M.2.2.2.2.2.2.2) : XSnd M pc X_acpy := by
  intro G p l e R s m args below meth c P t0 S0 htr0 hC K hK L st S u w h t H locs ls cells slots h1 h2 h3 h4 h5 h6 h7 h8 h9
  unfold X_acpy at h
  split at h
  · next n dp b sp a r =>
    obtain ⟨hcs, n0, f, n1, g, e1, e2, hka, hkb, i1, i2, i3, i4, i5, hel, h⟩ := h
    have hts := hC.2.2.2.2.2.1
    have hfr := hC.2.2.2.2.2.2.2.2.2.2.1
    have hlo := hC.2.2.2.2.2.2.2.2.2.2.2
    have hq : x_tys[3]? = some (.object "java/lang/Object") := rfl
    have hc0 : H[t a.1 a.2]? = some (vp_cell (G.2.1 3) (n0, .inr (.inr (.inr (.inr fun j => xz_o t (f j)))))) := h3.1 _ _ _ hka e1
    have hc1 : H[t b.1 b.2]? = some (vp_cell (G.2.1 3) (n1, .inr (.inr (.inr (.inr fun j => xz_o t (g j)))))) := h3.1 _ _ _ hkb e2
    intro T hT X
    obtain ⟨-, k0, hk0, cm0, hkk0⟩ := (hC.2.2.2.2.2.2.1.2.1 3 _ hq).1 n0 (fun j => va_rf (xz_o t (f j)))
    obtain ⟨-, k1, hk1, cm1, hkk1⟩ := (hC.2.2.2.2.2.2.1.2.1 3 _ hq).1 n1 (fun j => va_rf (xz_o t (g j)))
    obtain ⟨vm', X', step⟩ := X.arraycopy hC.1 hC.2.2.2.2.1 (hts _ hw.1) (hts _ hw.2.1) (hts _ hw.2.2.1) (hts _ hw.2.2.2) (src := t a.1 a.2) (dst := t b.1 b.2) (cs := vp_cell (G.2.1 3) (n0, .inr (.inr (.inr (.inr fun j => xz_o t (f j)))))) (cd := vp_cell (G.2.1 3) (n1, .inr (.inr (.inr (.inr fun j => xz_o t (g j)))))) (srcPos := sp) (destPos := dp) (n := n) (by rw [hT]; exact hc0) (by rw [hT]; exact hc1)
      (fun _ h => by cases h) (fun _ h => by cases h) (fun h => by cases h) (fun h => by cases h) hk0 hk1 hkk0 hkk1 rfl i1 i2 i3
      (by rw [x_nn sp i1, x_nn n i3]; show ¬ _ > ((arrV (G.2.1 3) n0 (fun j => va_rf (xz_o t (f j)))).slots.size : Int); rw [arrV_size]; omega)
      (by rw [x_nn dp i2, x_nn n i3]; show ¬ _ > ((arrV (G.2.1 3) n1 (fun j => va_rf (xz_o t (g j)))).slots.size : Int); rw [arrV_size]; omega)
      (fun vm₁ hal i hi => by
        have ee : (vp_cell (G.2.1 3) (n0, .inr (.inr (.inr (.inr fun j => xz_o t (f j)))))).slots.getD (sp.toNatClampNeg + i) .null = va_rf (xz_o t (f (sp.toNatClampNeg + i))) := by
          show (arrV (G.2.1 3) n0 (fun j => va_rf (xz_o t (f j)))).slots.getD _ _ = _
          rw [Array.getD_eq_getD_getElem?, arrV_read _ _ (by omega)]
          rfl
        rw [ee]
        cases hy : f (sp.toNatClampNeg + i) with
        | none => exact ⟨rfl, trivial⟩
        | some y =>
          obtain ⟨hy48, ci, fs, hci, ey⟩ := hel i hi y hy
          have hfact : ∃ (C : String) (Tc : u_T) (N : Nat), x_cls[ci]? = some (C, Tc, N) ∧ Cond.castable C "java/lang/Object" ∈ x_Wd := by
            rcases hci with rfl | rfl
            · exact ⟨_, _, _, xc6, x_i7 16 rfl rfl⟩
            · exact ⟨_, _, _, xc7, x_i7 17 rfl rfl⟩
          obtain ⟨C, Tc, N, hc, hca⟩ := hfact
          obtain ⟨r', hr', cellV, c1, c2, c3, -⟩ := h3.1 _ _ _ hy48 ey
          have hcls := (hC.2.2.2.2.2.2.1.1.1 ci _ hc).2
          obtain ⟨kA, comp, q1, q2, q3, -⟩ := (hC.2.2.2.2.2.2.1.2.1 3 _ hq).2
          cases hk1.symm.trans q1
          cases hkk1.symm.trans q2
          obtain ⟨kE, hkE, -⟩ := Vm.findClass_spec q3
          obtain ⟨x0, x1, f1, f2, f3⟩ := Cond.castable_spec (hts _ hca)
          cases hcls.1.symm.trans f1
          cases q3.symm.trans f2
          obtain ⟨kC, hkC, -⟩ := hcls.2
          have hkC2 : s.vm.classes[cellV.cls]? = some kC := by rw [c2]; exact hkC
          obtain ⟨kC', hkC', -⟩ := hal.2.2 _ _ hkC2
          obtain ⟨kE', hkE', -⟩ := hal.2.2 _ _ hkE
          refine ⟨rfl, cellV, (show T.heap[t y.1 y.2]? = some cellV by rw [hT]; exact c1), (fun q h => by rw [c3] at h; cases h), ⟨kC', hkC'⟩, ⟨kE', hkE'⟩, ?_⟩
          show vm₁.assignable _ _ = true
          rw [hal.assignable, c2]
          exact f3)
      (g := F0 m pc ls (.int n :: .int dp :: .ref (t b.1 b.2) :: .int sp :: .ref (t a.1 a.2) :: r.map (xz t))) rfl (by rw [hC.2.2.1]; exact h5.1.1) (rest := r.map (xz t)) rfl (by rw [hC.2.1]; exact hd) (by omega) (by show 2 * 0 + _ + _ ≤ _; rw [x_cs_cat, x_sysw]; omega)
    have ez : copied (vp_cell (G.2.1 3) (n0, .inr (.inr (.inr (.inr fun j => xz_o t (f j)))))) (vp_cell (G.2.1 3) (n1, .inr (.inr (.inr (.inr fun j => xz_o t (g j)))))) sp dp n = vp_cell (G.2.1 3) (n1, .inr (.inr (.inr (.inr (fun j => xz_o t (va_cpy f g sp.toNatClampNeg dp.toNatClampNeg n.toNatClampNeg j)))))) := by
      have e9 : (fun j => xz_o t (va_cpy f g sp.toNatClampNeg dp.toNatClampNeg n.toNatClampNeg j)) = va_cpy (fun j => xz_o t (f j)) (fun j => xz_o t (g j)) sp.toNatClampNeg dp.toNatClampNeg n.toNatClampNeg := by
        funext j
        unfold va_cpy
        split <;> rfl
      rw [e9, vp_cell_q, vp_cell_q, vp_cell_q]
      exact va_copied (fun z => va_rf z) _ _ _ _ i4
    rw [ez] at X' step
    have hl : t b.1 b.2 < H.size := (Array.getElem?_eq_some_iff.mp hc1).1
    have hheap : ((T.setVm vm').setCell (t b.1 b.2) (vp_cell (G.2.1 3) (n1, .inr (.inr (.inr (.inr (fun j => xz_o t (va_cpy f g sp.toNatClampNeg dp.toNatClampNeg n.toNatClampNeg j)))))))).heap = H.setIfInBounds (t b.1 b.2) (vp_cell (G.2.1 3) (n1, .inr (.inr (.inr (.inr (fun j => xz_o t (va_cpy f g sp.toNatClampNeg dp.toNatClampNeg n.toNatClampNeg j))))))) := by rw [← hT]; rfl
    have hok : x_okc S (.inr (3, n1, .inr (.inr (va_cpy f g sp.toNatClampNeg dp.toNatClampNeg n.toNatClampNeg)))) := by
      intro k hk'
      show x_ok S (xv_o (va_cpy f g sp.toNatClampNeg dp.toNatClampNeg n.toNatClampNeg k))
      unfold va_cpy
      split
      · exact (h3.2.1 _ _ _ e1 : ∀ j, j < n0 → x_ok S (xv_o (f j))) _ (by omega)
      · exact (h3.2.1 _ _ _ e2 : ∀ j, j < n1 → x_ok S (xv_o (g j))) k hk'
    have hset := h3.set (H1 := H.setIfInBounds (t b.1 b.2) (vp_cell (G.2.1 3) (n1, .inr (.inr (.inr (.inr (fun j => xz_o t (va_cpy f g sp.toNatClampNeg dp.toNatClampNeg n.toNatClampNeg j)))))))) e2 hkb hok (by simp) (fun q hq => by simp [Array.getElem?_setIfInBounds, Ne.symm hq]) (by
      show (H.setIfInBounds _ _)[t b.1 b.2]? = some (vp_cell _ _)
      simp only [Array.getElem?_setIfInBounds, hl, if_true]
      rfl)
    have kk := fun locs' (hl' : ∀ q ∈ locs', G.2.2.1 ≤ q.base) => hK _ _ _ _ _ _ h t _ locs' ls cells slots h1 h2.up hset hl' h5 (h6.dm (x_dm.up x_dm.rf)) (h7.tl.tl.tl.tl.tl.dm (x_dm.up x_dm.rf)) h8 h9
    obtain ⟨tt, a1, b1⟩ := kk _ (by
      intro q hq
      rcases List.mem_append.mp hq with z | z
      · exact h4 q z
      · obtain ⟨z, -, hz⟩ := List.mem_map.mp z
        rw [← hz]
        exact h3.2.2.2.1 _ _ (x_some e2) hkb) _ hheap X'
    exact ⟨tt, step tt a1, b1⟩
  · exact h.elim
theorem xs_acpyB {index : Nat} (hd : decode M.2.1 pc = .ok (.invokestatic index, 3)) (hw : Cond.methodLink M.1 index arraycopyName ∈ x_Wd ∧ Cond.native arraycopyName ∈ x_Wd ∧ Cond.static arraycopyName ∈ x_Wd ∧ Cond.initialized "java/lang/System" ∈ x_Wd) (hr : 1 ≤ M.2.2.2.2.2.2.1 ∧ 26 ≤ M.2.2.2.2.2.2.2) : XSnd M pc X_acpyB := by
  intro G p l e R s m args below meth c P t0 S0 htr0 hC K hK L st S u w h t H locs ls cells slots h1 h2 h3 h4 h5 h6 h7 h8 h9
  unfold X_acpyB at h
  split at h
  · next n dp b sp a r =>
    obtain ⟨hcs, n0, f, n1, g, e1, e2, hkb, i1, i2, i3, i4, i5, hel, h⟩ := h
    have hts := hC.2.2.2.2.2.1
    have hfr := hC.2.2.2.2.2.2.2.2.2.2.1
    have hlo := hC.2.2.2.2.2.2.2.2.2.2.2
    have hq : x_tys[2]? = some .byte := rfl
    have hsrc : ∃ scr : Cell, H[t a.1 a.2]? = some scr ∧ s.isArrayOf scr .byte ∧ scr.vm ≠ .unknown ∧ n0 ≤ scr.slots.size ∧ ∀ j, j < n0 → scr.slots[j]? = some (.int (f j)) := by
      by_cases h48 : a.1 < 48
      · refine ⟨vp_cell (G.2.1 2) (n0, .inl f), h3.1 _ _ _ h48 e1, (hC.2.2.2.2.2.2.1.2.1 2 _ hq).1 n0 (fun j => .int (f j)), (fun h => by cases h), ?_, fun j hj => ?_⟩
        · show n0 ≤ (arrV (G.2.1 2) n0 (fun j => .int (f j))).slots.size
          rw [arrV_size]
          exact Nat.le_refl _
        · show (arrV (G.2.1 2) n0 (fun j => .int (f j))).slots[j]? = _
          exact arrV_read _ _ hj
      · have hX := hC.2.2.2.2.2.2.1.2.2
        obtain ⟨z1, z2⟩ := h3.2.2.2.2.2.2 _ _ h48
        obtain ⟨ty, y1, y2⟩ := hX.1 _ _ _ _ _ h48 (z1.symm.trans e1)
        obtain ⟨cell, c1, c2, c3, c4, c5, c6, c7⟩ := y2.kept (x_hq hX h3)
        have hty : ty = .byte := Option.some.inj (y1.symm.trans hq)
        subst hty
        exact ⟨cell, by rw [(z2 (x_some e1)).1]; exact c1, c2, c3, c4, c6⟩
    obtain ⟨scr, hc0, ⟨hs6, k0, hk0, cm0, hkk0⟩, hs3, hs4, hs5⟩ := hsrc
    have hc1 : H[t b.1 b.2]? = some (vp_cell (G.2.1 2) (n1, .inl g)) := h3.1 _ _ _ hkb e2
    intro T hT X
    obtain ⟨-, k1, hk1, cm1, hkk1⟩ := (hC.2.2.2.2.2.2.1.2.1 2 _ hq).1 n1 (fun j => .int (g j))
    obtain ⟨vm', X', step⟩ := X.arraycopy hC.1 hC.2.2.2.2.1 (hts _ hw.1) (hts _ hw.2.1) (hts _ hw.2.2.1) (hts _ hw.2.2.2) (src := t a.1 a.2) (dst := t b.1 b.2) (cs := scr) (cd := vp_cell (G.2.1 2) (n1, .inl g)) (srcPos := sp) (destPos := dp) (n := n) (by rw [hT]; exact hc0) (by rw [hT]; exact hc1)
      hs6 (fun _ h => by cases h) hs3 (fun h => by cases h) hk0 hk1 hkk0 hkk1 (by simp [refKind]) i1 i2 i3
      (by rw [x_nn sp i1, x_nn n i3]; omega)
      (by rw [x_nn dp i2, x_nn n i3]; show ¬ _ > ((arrV (G.2.1 2) n1 (fun j => .int (g j))).slots.size : Int); rw [arrV_size]; omega)
      (fun vm₁ _ i hi => by
        have ee : scr.slots.getD (sp.toNatClampNeg + i) .null = .int (f (sp.toNatClampNeg + i)) := by
          rw [Array.getD_eq_getD_getElem?, hs5 _ (by omega)]
          rfl
        rw [ee]
        refine ⟨?_, trivial⟩
        show (decide (-128 ≤ f (sp.toNatClampNeg + i)) && decide (f (sp.toNatClampNeg + i) ≤ 127)) = true
        rw [decide_eq_true (hel i hi).1, decide_eq_true (hel i hi).2]
        rfl)
      (g := F0 m pc ls (.int n :: .int dp :: .ref (t b.1 b.2) :: .int sp :: .ref (t a.1 a.2) :: r.map (xz t))) rfl (by rw [hC.2.2.1]; exact h5.1.1) (rest := r.map (xz t)) rfl (by rw [hC.2.1]; exact hd) (by omega) (by show 2 * 0 + _ + _ ≤ _; rw [x_cs_cat, x_sysw]; omega)
    have ez : copied scr (vp_cell (G.2.1 2) (n1, .inl g)) sp dp n = vp_cell (G.2.1 2) (n1, .inl (va_cpy f g sp.toNatClampNeg dp.toNatClampNeg n.toNatClampNeg)) := va_copiedX (fun z => .int z) scr (G.2.1 2) f g hs5 i4
    rw [ez] at X' step
    have hl : t b.1 b.2 < H.size := (Array.getElem?_eq_some_iff.mp hc1).1
    have hheap : ((T.setVm vm').setCell (t b.1 b.2) (vp_cell (G.2.1 2) (n1, .inl (va_cpy f g sp.toNatClampNeg dp.toNatClampNeg n.toNatClampNeg)))).heap = H.setIfInBounds (t b.1 b.2) (vp_cell (G.2.1 2) (n1, .inl (va_cpy f g sp.toNatClampNeg dp.toNatClampNeg n.toNatClampNeg))) := by rw [← hT]; rfl
    have hset := h3.set (c := .inr (2, n1, .inl (va_cpy f g sp.toNatClampNeg dp.toNatClampNeg n.toNatClampNeg))) (H1 := H.setIfInBounds (t b.1 b.2) (vp_cell (G.2.1 2) (n1, .inl (va_cpy f g sp.toNatClampNeg dp.toNatClampNeg n.toNatClampNeg)))) e2 hkb trivial (by simp) (fun q hq => by simp [Array.getElem?_setIfInBounds, Ne.symm hq]) (by
      show (H.setIfInBounds _ _)[t b.1 b.2]? = some (vp_cell _ _)
      simp only [Array.getElem?_setIfInBounds, hl, if_true]
      rfl)
    have kk := fun locs' (hl' : ∀ q ∈ locs', G.2.2.1 ≤ q.base) => hK _ _ _ _ _ _ h t _ locs' ls cells slots h1 h2.up hset hl' h5 (h6.dm (x_dm.up x_dm.rf)) (h7.tl.tl.tl.tl.tl.dm (x_dm.up x_dm.rf)) h8 h9
    obtain ⟨tt, a1, b1⟩ := kk _ (by
      intro q hq
      rcases List.mem_append.mp hq with z | z
      · exact h4 q z
      · obtain ⟨z, -, hz⟩ := List.mem_map.mp z
        rw [← hz]
        exact h3.2.2.2.1 _ _ (x_some e2) hkb) _ hheap X'
    exact ⟨tt, step tt a1, b1⟩
  · exact h.elim
theorem x_55 {G : XG} {U : State} {t : XT} {S : XH} {H : Heap} (hX : x_KX G U) (h : x_R G t S H) (h0 : S 55 0 ≠ none) : va_Mi "[Ljava/lang/Object;" (t 55 0) U := by
  obtain ⟨z1, z2⟩ := h.2.2.2.2.2.2 55 0 (by decide)
  rw [(z2 h0).1]
  cases hc : G.2.2.2.2.2 55 0 with
  | none => exact absurd (z1.trans hc) h0
  | some c => exact (hX.2.2.2.2.2.2.2.2.1 55 0 c (by decide) hc).2 rfl
theorem xs_ldcC {index : Nat} (hd : decode M.2.1 pc = .ok (.ldc index, 2)) (hw : Cond.classLink M.1 index "[Ljava/lang/Object;" ∈ x_Wd) : XSnd M pc (X_ldcC 2) := by
  intro G p l e R s m args below meth c P t0 S0 htr0 hC K hK L st S u w h t H locs ls cells slots h1 h2 h3 h4 h5 h6 h7 h8 h9
  have hX := hC.2.2.2.2.2.2.1.2.2
  exact va_ldcM hC.1 hC.2.1 hC.2.2.2.2.1 (hC.2.2.2.2.2.1 _ hw) (x_55 hX h3 h.1) hd (hK _ _ _ _ _ _ h.2 t H locs ls cells slots h1 h2 h3 h4 h5 h6 (x_oks.cons h.1 h7) h8 h9)
theorem xs_getC {index : Nat} (hd : decode M.2.1 pc = .ok (.invokevirtual index, 3)) (hw : Cond.methodLink M.1 index ⟨"java/lang/Object", "getClass", "()Ljava/lang/Class;"⟩ ∈ x_Wd ∧ Cond.declares ⟨"java/lang/Object", "getClass", "()Ljava/lang/Class;"⟩ ∈ x_Wd ∧ Cond.selects "[Ljava/lang/Object;" ⟨"java/lang/Object", "getClass", "()Ljava/lang/Class;"⟩ ⟨"java/lang/Object", "getClass", "()Ljava/lang/Class;"⟩ ∈ x_Wd ∧ Cond.instanceMethod ⟨"java/lang/Object", "getClass", "()Ljava/lang/Class;"⟩ ∈ x_Wd ∧ Cond.native ⟨"java/lang/Object", "getClass", "()Ljava/lang/Class;"⟩ ∈ x_Wd) (hr : 1 ≤ M.2.2.2.2.2.2.1 ∧ 20 ≤ M.2.2.2.2.2.2.2) : XSnd M pc X_getC := by
  intro G p l e R s m args below meth c P t0 S0 htr0 hC K hK L st S u w h t H locs ls cells slots h1 h2 h3 h4 h5 h6 h7 h8 h9
  unfold X_getC at h
  split at h
  · next a r =>
    obtain ⟨hcs, h48, h0, n, z, e1, h⟩ := h
    have hts := hC.2.2.2.2.2.1
    have hfr := hC.2.2.2.2.2.2.2.2.2.2.1
    have hlo := hC.2.2.2.2.2.2.2.2.2.2.2
    have hX := hC.2.2.2.2.2.2.1.2.2
    have hq : x_tys[3]? = some (.object "java/lang/Object") := rfl
    have hcls : s.vm.findClass "[Ljava/lang/Object;" = some (G.2.1 3) := va_nmO (hC.2.2.2.2.2.2.1.2.1 3 _ hq).2 (by decide +kernel)
    have hcell : H[t a.1 a.2]? = some (vp_cell (G.2.1 3) (xz_a t n z)) := h3.1 _ _ _ h48 e1
    have hcc : (vp_cell (G.2.1 3) (xz_a t n z)).vm.isStatics = false ∧ (vp_cell (G.2.1 3) (xz_a t n z)).cls = G.2.1 3 := by
      rcases z with f | f | f <;> exact ⟨rfl, rfl⟩
    exact va_getC hC.1 hC.2.1 (hC.2.2.1.trans h5.1.1.symm) hC.2.2.2.2.1 (hts _ hw.1) (hts _ hw.2.1) (hts _ hw.2.2.1) (hts _ hw.2.2.2.1) (hts _ hw.2.2.2.2) (x_55 hX h3 h0) ⟨_, hcell, hcc.1, by rw [hcc.2]; exact hcls⟩ (by omega) (by rw [x_cs_cat]; omega) hd (hK _ _ _ _ _ _ h t H locs ls cells slots h1 h2 h3 h4 h5 h6 (x_oks.cons h0 h7.tl) h8 h9)
  · exact h.elim
theorem xs_fmt {index : Nat} (hd : decode M.2.1 pc = .ok (.getstatic index, 3)) (hl : Cond.fieldLink M.1 index "jdk/internal/util/Preconditions" "SIOOBE_FORMATTER" "Ljava/util/function/BiFunction;" ∈ x_Wd) : XSnd M pc X_fmt := by
  intro G p l e R s m args below meth c P t0 S0 htr0 hC K hK L st S u w h t H locs ls cells slots h1 h2 h3 h4 h5 h6 h7 h8 h9
  have hX := hC.2.2.2.2.2.2.1.2.2
  obtain ⟨g1, g2⟩ := hX.2.2.2.2.2.2.2.2.2
  rcases g2 with g2 | g2
  · have kk := hK _ _ _ _ _ _ h.1 t H locs ls cells slots h1 h2 h3 h4 h5 h6 (x_oks.cons trivial h7) h8 h9
    obtain ⟨cf, kf, fi, f, a, cell, z1, z2, z3, z4, z5, z6, z7, z8⟩ := va_Z.kept g2 (x_hq hX h3)
    exact W.gets hC.1 hC.2.1 hC.2.2.2.2.1 (hC.2.2.2.2.2.1 _ hl) z1 z2 z3 z4 z5 (fun e => by rw [e] at z6; cases z6) z7 rfl hd kk
  · obtain ⟨y1, y2⟩ := h3.2.2.2.2.2.2 56 0 (by decide)
    have g3 : S 56 0 ≠ none := by rw [y1]; exact g1
    have kk := hK _ _ _ _ _ _ (h.2 g3) t H locs ls cells slots h1 h2 h3 h4 h5 h6 (x_oks.cons g3 h7) h8 h9
    rw [← (y2 g3).1] at g2
    obtain ⟨cf, kf, fi, f, a, cell, z1, z2, z3, z4, z5, z6, z7, z8⟩ := va_Z.kept g2 (x_hq hX h3)
    exact W.gets hC.1 hC.2.1 hC.2.2.2.2.1 (hC.2.2.2.2.2.1 _ hl) z1 z2 z3 z4 z5 (fun e => by rw [e] at z6; cases z6) z7 rfl hd kk
theorem xs_bret (hd : decode M.2.1 pc = .ok (.ireturn, 1)) (hr : M.2.2.2.1 = some .byte) : XSnd M pc X_bret := by
  intro G p l e R s m args below meth c P t0 S0 htr0 hC K hK L st S u w h t H locs ls cells slots h1 h2 h3 h4 h5 h6 h7 h8 h9
  unfold X_bret at h
  split at h
  · next x => exact x_ret (r := some (xv_i x)) h1 h2 h3 (fun _ q => by cases q; trivial) h.2 (by omega) (by omega) fun Qc hq => W.zret hC.1 hC.2.1 (hC.2.2.2.1.trans hr) (by rw [h.1]; rfl) hq h4 hd hC.2.2.2.2.2.2.2.1
  · exact h.elim
theorem xs_cret (hd : decode M.2.1 pc = .ok (.ireturn, 1)) (hr : M.2.2.2.1 = some .char) : XSnd M pc X_cret := by
  intro G p l e R s m args below meth c P t0 S0 htr0 hC K hK L st S u w h t H locs ls cells slots h1 h2 h3 h4 h5 h6 h7 h8 h9
  unfold X_cret at h
  split at h
  · next x => exact x_ret (r := some (xv_i x)) h1 h2 h3 (fun _ q => by cases q; trivial) h.2 (by omega) (by omega) fun Qc hq => W.zret hC.1 hC.2.1 (hC.2.2.2.1.trans hr) (congrArg Value.int h.1) hq h4 hd hC.2.2.2.2.2.2.2.1
  · exact h.elim
end XNW
section XNC
variable {M : XM} {pc : Nat}
theorem xm_invE {ci : Nat} {Y : XMeth} (hY : x_Ymn Y) {n : Nat} {hs : List (Nat × Nat)} : XMon (X_invE ci Y n hs) := by
  intro K K' P P' pc L st S u w hK hP h
  unfold X_invE at h ⊢
  split at h
  · next q rest heq =>
    try rw [heq]
    obtain ⟨a0, a00, a1, a2, a3, mc, ms, e1, e2, h⟩ := h
    exact ⟨a0, a00, a1, a2, a3, mc, ms, e1, e2, hY _ _ _ _ _ _ (x_aft_mono hK hP) h⟩
  · exact h.elim
theorem xs_invP {ci n index N : Nat} {C : String} {T : u_T} {y : MethodName} {My : XM} {Y : XMeth} {hs : List (Nat × Nat)} (hd : decode M.2.1 pc = .ok (.invokevirtual index, 3)) (hc : x_cls[ci]? = some (C, T, N)) (hY : x_Snd y My Y) (his : x_Is y My)
    (hw : Cond.methodLink M.1 index y ∈ x_Wd ∧ Cond.instanceMethod y ∈ x_Wd ∧ (Cond.privateMethod y ∈ x_Wd ∧ Cond.sameMethod y.cls y.cls y.name y.desc ∈ x_Wd) ∧ Cond.initialized y.cls ∈ x_Wd) (hy : y.cls ≠ "java/lang/invoke/MethodHandle" ∧ y.cls ≠ "java/lang/invoke/VarHandle" ∧ (parseMethodDescriptor y.desc).map (fun d => d.parameters.length) = some n)
    (hr : n + 1 ≤ My.2.2.1 ∧ My.2.2.2.2.2.2.1 + 1 ≤ M.2.2.2.2.2.2.1 ∧ 8 + (My.2.2.1 + 11) + My.2.2.2.2.2.2.2 ≤ M.2.2.2.2.2.2.2) (hh : x_hok M pc hs) : XSnd M pc (X_invV ci Y n hs) := by
  intro G p l e R s m args below meth c P t0 S0 htr0 hC K hK L st S u w h t H locs ls cells slots h1 h2 h3 h4 h5 h6 h7 h8 h9
  unfold X_invV at h
  split at h
  · next q rest heq =>
    obtain ⟨h48, ⟨fs, e1⟩, hc1, hcs, mc, ms, hmc, hms, hrun⟩ := h
    have hts := hC.2.2.2.2.2.1
    have hd7 := x_drop h7 n
    rw [heq] at hd7
    have est : st.map (xz t) = ((st.take n).reverse.map (xz t)).reverse ++ .ref (t q.1 q.2) :: rest.map (xz t) := by
      rw [List.map_reverse, List.reverse_reverse]
      conv => lhs; rw [← List.take_append_drop n st, heq]
      rw [List.map_append]
      rfl
    have hlt : (st.take n).length = n := by
      have : n < st.length := by
        rcases Nat.lt_or_ge n st.length with z | z
        · exact z
        · rw [List.drop_eq_nil_of_le z] at heq
          cases heq
      rw [List.length_take]
      omega
    refine x_call (vs := xv_r q.1 q.2 :: (st.take n).reverse) (rest := rest) htr0 hC hY his hw.2.2.2 hd hr.2.1 hr.2.2 hh hK h1 h2 h3 h4 h5 h6 (x_oks.cons (x_some e1) (x_take h7 n)) ?_ ?_ hd7.tl hcs h8 h9 hmc hms hrun ?_
    · intro v hv
      rcases List.mem_cons.mp hv with rfl | hv
      · rfl
      · exact x_c1s hc1 v hv
    · rw [List.length_cons, List.length_reverse, hlt]
      exact hr.1
    · intro T' hT X
      obtain ⟨mk, methM, hnamed, hmethM, hstM, habM⟩ := Cond.instanceMethod_spec (hts _ hw.2.1)
      obtain ⟨mk', methM', cM, hn', hm', -, -, -, -, -, -, hsig⟩ := his args s hts
      cases hnamed.symm.trans hn'
      cases hmethM.symm.trans hm'
      obtain ⟨r', g1, cellB, c1, cc2, c3, -⟩ := h3.1 _ _ _ h48 e1
      obtain ⟨cP, kP, rP, q1, hkP0, hkPi, -, q2⟩ := Cond.sameMethod_found (hts _ hw.2.2.1.2)
      cases hnamed.symm.trans q2
      have hkP : s.vm.classes[mk.cls]? = some kP := by
        rw [← Option.some.inj (q1.symm.trans (findClass_of_methodNamed hnamed))]
        exact hkP0
      have hselP : selectMethod e.platform s.vm cellB.cls mk = .method mk := selectMethod_private hmethM (Cond.privateMethod_at (hts _ hw.2.2.1.1) mk methM hnamed hmethM)
      have hlen : ((st.take n).reverse.map (xz t)).length = methM.sig.parameters.length := by
        rw [List.length_map, List.length_reverse, hlt]
        have z := hy.2.2
        rw [hsig] at z
        exact (Option.some.inj z).symm
      obtain ⟨vm₁, X₁, hstep₁⟩ := X.invokevirtual hC.1 hC.2.2.2.2.1 (hts _ hw.1) hnamed hmethM hstM hkP hkPi ⟨hy.1, hy.2.1⟩ (a := t q.1 q.2) (cell := cellB) (by rw [hT]; exact c1)
        (fun z h => by rw [c3] at h; cases h) hselP hmethM habM hkP hkPi (g := F0 m pc ls (st.map (xz t))) rfl (argsL := (st.take n).reverse.map (xz t)) (rest := rest.map (xz t)) hlen est (by rw [hC.2.1]; exact hd)
      exact ⟨vm₁, mk, X₁, X₁.named hnamed, fun target h => hstep₁ _ h⟩
  · exact h.elim
theorem xs_invU {ci n index N : Nat} {C : String} {T : u_T} {y : MethodName} {My : XM} {Y : XMeth} {hs : List (Nat × Nat)} (hd : decode M.2.1 pc = .ok (.invokespecial index, 3)) (hc : x_cls[ci]? = some (C, T, N)) (hY : x_Snd y My Y) (his : x_Is y My)
    (hw : Cond.methodLink M.1 index y ∈ x_Wd ∧ Cond.instanceMethod y ∈ x_Wd ∧ (Cond.superclass M.1 y.cls ∈ x_Wd ∧ Cond.sameMethod y.cls y.cls y.name y.desc ∈ x_Wd ∧ y.name ≠ "<init>") ∧ Cond.initialized y.cls ∈ x_Wd) (hy : y.cls ≠ "java/lang/invoke/MethodHandle" ∧ y.cls ≠ "java/lang/invoke/VarHandle" ∧ (parseMethodDescriptor y.desc).map (fun d => d.parameters.length) = some n)
    (hr : n + 1 ≤ My.2.2.1 ∧ My.2.2.2.2.2.2.1 + 1 ≤ M.2.2.2.2.2.2.1 ∧ 8 + (My.2.2.1 + 11) + My.2.2.2.2.2.2.2 ≤ M.2.2.2.2.2.2.2) (hh : x_hok M pc hs) : XSnd M pc (X_invV ci Y n hs) := by
  intro G p l e R s m args below meth c P t0 S0 htr0 hC K hK L st S u w h t H locs ls cells slots h1 h2 h3 h4 h5 h6 h7 h8 h9
  unfold X_invV at h
  split at h
  · next q rest heq =>
    obtain ⟨h48, ⟨fs, e1⟩, hc1, hcs, mc, ms, hmc, hms, hrun⟩ := h
    have hts := hC.2.2.2.2.2.1
    have hd7 := x_drop h7 n
    rw [heq] at hd7
    have est : st.map (xz t) = ((st.take n).reverse.map (xz t)).reverse ++ .ref (t q.1 q.2) :: rest.map (xz t) := by
      rw [List.map_reverse, List.reverse_reverse]
      conv => lhs; rw [← List.take_append_drop n st, heq]
      rw [List.map_append]
      rfl
    have hlt : (st.take n).length = n := by
      have : n < st.length := by
        rcases Nat.lt_or_ge n st.length with z | z
        · exact z
        · rw [List.drop_eq_nil_of_le z] at heq
          cases heq
      rw [List.length_take]
      omega
    refine x_call (vs := xv_r q.1 q.2 :: (st.take n).reverse) (rest := rest) htr0 hC hY his hw.2.2.2 hd hr.2.1 hr.2.2 hh hK h1 h2 h3 h4 h5 h6 (x_oks.cons (x_some e1) (x_take h7 n)) ?_ ?_ hd7.tl hcs h8 h9 hmc hms hrun ?_
    · intro v hv
      rcases List.mem_cons.mp hv with rfl | hv
      · rfl
      · exact x_c1s hc1 v hv
    · rw [List.length_cons, List.length_reverse, hlt]
      exact hr.1
    · intro T' hT X
      obtain ⟨mk, methM, hnamed, hmethM, hstM, habM⟩ := Cond.instanceMethod_spec (hts _ hw.2.1)
      obtain ⟨mk', methM', cM, hn', hm', -, -, -, -, -, -, hsig⟩ := his args s hts
      cases hnamed.symm.trans hn'
      cases hmethM.symm.trans hm'
      obtain ⟨r', g1, cellB, c1, cc2, c3, -⟩ := h3.1 _ _ _ h48 e1
      obtain ⟨kC, hkC, -⟩ := (hC.2.2.2.2.2.2.1.1.1 ci _ hc).2.2
      obtain ⟨ps, dk, kp, hps, hdk, hkp, hsuper, -, -, hnid⟩ := Cond.superclass_spec hC.2.2.2.2.1 (hts _ hw.2.2.1.1)
      have hpm : ps = mk.cls := Option.some.inj (hps.symm.trans (findClass_of_methodNamed hnamed))
      have hsub : s.vm.isSubclass ps mk.cls = true := by rw [hpm]; simp [Vm.isSubclass, Vm.isSubclassAux]
      have hn : s.methodNamed? ⟨y.cls, y.name, y.desc⟩ = some mk := hnamed
      have hlen : ((st.take n).reverse.map (xz t)).length = methM.sig.parameters.length := by
        rw [List.length_map, List.length_reverse, hlt]
        have z := hy.2.2
        rw [hsig] at z
        exact (Option.some.inj z).symm
      obtain ⟨vm₁, X₁, hstep₁⟩ := X.invokespecialUp hC.1 hC.2.2.2.2.1 (hts _ hw.1) (hts _ hw.2.2.1.2.1) hn hmethM hstM habM hw.2.2.1.2.2 hdk hnid hps hsuper hsub (a := t q.1 q.2) (cell := cellB) (by rw [hT]; exact c1)
        (fun z h => by rw [c3] at h; cases h) (by rw [cc2]; exact hkC) (g := F0 m pc ls (st.map (xz t))) rfl (argsL := (st.take n).reverse.map (xz t)) (rest := rest.map (xz t)) hlen est (by rw [hC.2.1]; exact hd)
      exact ⟨vm₁, mk, X₁, X₁.named hnamed, fun target h => hstep₁ _ (h [])⟩
  · exact h.elim
theorem xs_invE {ci n index : Nat} {C : String} {y : MethodName} {My : XM} {Y : XMeth} {hs : List (Nat × Nat)} (hd : decode M.2.1 pc = .ok (.invokevirtual index, 3)) (hc : x_rocls ci = C) (hY : x_Snd y My Y) (his : x_Is y My)
    (hw : Cond.methodLink M.1 index y ∈ x_Wd ∧ Cond.instanceMethod y ∈ x_Wd ∧ Cond.selects C y y ∈ x_Wd ∧ Cond.initialized y.cls ∈ x_Wd) (hy : y.cls ≠ "java/lang/invoke/MethodHandle" ∧ y.cls ≠ "java/lang/invoke/VarHandle" ∧ (parseMethodDescriptor y.desc).map (fun d => d.parameters.length) = some n)
    (hr : n + 1 ≤ My.2.2.1 ∧ My.2.2.2.2.2.2.1 + 1 ≤ M.2.2.2.2.2.2.1 ∧ 8 + (My.2.2.1 + 11) + My.2.2.2.2.2.2.2 ≤ M.2.2.2.2.2.2.2) (hh : x_hok M pc hs) : XSnd M pc (X_invE ci Y n hs) := by
  intro G p l e R s m args below meth c P t0 S0 htr0 hC K hK L st S u w h t H locs ls cells slots h1 h2 h3 h4 h5 h6 h7 h8 h9
  unfold X_invE at h
  split at h
  · next q rest heq =>
    obtain ⟨h48, h55, ⟨fs, e1⟩, hc1, hcs, mc, ms, hmc, hms, hrun⟩ := h
    have hts := hC.2.2.2.2.2.1
    have hd7 := x_drop h7 n
    rw [heq] at hd7
    have est : st.map (xz t) = ((st.take n).reverse.map (xz t)).reverse ++ .ref (t q.1 q.2) :: rest.map (xz t) := by
      rw [List.map_reverse, List.reverse_reverse]
      conv => lhs; rw [← List.take_append_drop n st, heq]
      rw [List.map_append]
      rfl
    have hlt : (st.take n).length = n := by
      have : n < st.length := by
        rcases Nat.lt_or_ge n st.length with z | z
        · exact z
        · rw [List.drop_eq_nil_of_le z] at heq
          cases heq
      rw [List.length_take]
      omega
    refine x_call (vs := xv_r q.1 q.2 :: (st.take n).reverse) (rest := rest) htr0 hC hY his hw.2.2.2 hd hr.2.1 hr.2.2 hh hK h1 h2 h3 h4 h5 h6 (x_oks.cons (x_some e1) (x_take h7 n)) ?_ ?_ hd7.tl hcs h8 h9 hmc hms hrun ?_
    · intro v hv
      rcases List.mem_cons.mp hv with rfl | hv
      · rfl
      · exact x_c1s hc1 v hv
    · rw [List.length_cons, List.length_reverse, hlt]
      exact hr.1
    · intro T' hT X
      obtain ⟨mk, methM, hnamed, hmethM, hstM, habM⟩ := Cond.instanceMethod_spec (hts _ hw.2.1)
      obtain ⟨mk', methM', cM, hn', hm', -, -, -, -, -, -, hsig⟩ := his args s hts
      cases hnamed.symm.trans hn'
      cases hmethM.symm.trans hm'
      obtain ⟨c2, r2, m2, q1, q2, q3, q4, kP, hkP, hkPi⟩ := Cond.selects_spec (hts _ hw.2.2.1)
      have hX := hC.2.2.2.2.2.2.1.2.2
      obtain ⟨z1, z2⟩ := h3.2.2.2.2.2.2 _ _ h48
      obtain ⟨cellB, c1, c3, hcl2, -⟩ := (hX.2.1 _ _ _ _ h48 h55 (z1.symm.trans e1)).1.kept (x_hq hX h3)
      rw [hc] at hcl2
      rw [← (z2 (x_some e1)).1] at c1
      cases hcl2.symm.trans q1
      cases (State.methodFound?_of_named hnamed ⟨hy.1, hy.2.1⟩).symm.trans q2
      cases hnamed.symm.trans q3
      have hselP : selectMethod e.platform s.vm cellB.cls mk = .method mk := by rw [Launch.admits_selectMethod X.admits]; exact q4
      have hlen : ((st.take n).reverse.map (xz t)).length = methM.sig.parameters.length := by
        rw [List.length_map, List.length_reverse, hlt]
        have z := hy.2.2
        rw [hsig] at z
        exact (Option.some.inj z).symm
      obtain ⟨vm₁, X₁, hstep₁⟩ := X.invokevirtual hC.1 hC.2.2.2.2.1 (hts _ hw.1) hnamed hmethM hstM hkP hkPi ⟨hy.1, hy.2.1⟩ (a := t q.1 q.2) (cell := cellB) (by rw [hT]; exact c1)
        (fun z h => by rw [h] at c3; cases c3) hselP hmethM habM hkP hkPi (g := F0 m pc ls (st.map (xz t))) rfl (argsL := (st.take n).reverse.map (xz t)) (rest := rest.map (xz t)) hlen est (by rw [hC.2.1]; exact hd)
      exact ⟨vm₁, mk, X₁, X₁.named hnamed, fun target h => hstep₁ _ h⟩
  · exact h.elim
end XNC
