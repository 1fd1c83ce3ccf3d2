section CV
variable {S : XH} {P : XP} {d : DS} {m st : Nat} {tr am : Int32} {vs : List R6}
theorem c_cameOut {t : Int32} (h : KM d m tr am vs st S) (hm : m < 4) (hP : P (.inl (some (xv_i (if d.1 14 m = t then d.1 15 m else 0)))) S) : Y_D_cameOutFor 0 0 [xv_r 5 m, xv_i t] S P := by
  refine x_go.run mn_D_cameOutFor 10 ?_
  refine ⟨nl rfl, _, _, (h.dob hm), rfl, ?_⟩
  refine ⟨fun c => ?_, fun c => ?_⟩
  · rw [if_neg (fun z => c z.symm)] at hP
    exact hP
  · rw [if_pos (Classical.not_not.mp c).symm] at hP
    refine ⟨nl rfl, _, _, (h.dob hm), rfl, ?_⟩
    exact hP
theorem drev_ok {t w : Int32} (h : (drev d m t w).2 = false) : dfailsb d m = false ∧ drev d m t w = (dsent (drec d m (4, Int32.ofNat m, t, 0, w, 0)) (420, Int32.ofNat m, t, 0, w, 0), false) := by
  rcases bcase (dfailsb d m) with y | y
  · have : drev d m t w = drecB d m (4, Int32.ofNat m, t, 0, w, 0) := dthen_t y
    rw [this] at h
    rw [show dfailsb d m = false from h] at y
    cases y
  · exact ⟨y, dthen_f y⟩
theorem drev_m {t w : Int32} (hm : m < 4) (h : (drev d m t w).2 = false) : (drev d m t w).1.2 m = d.2 m ++ [(4, Int32.ofNat m, t, 0, w, 0)] ∧ (drev d m t w).1.1 10 m = d.1 10 m := by
  obtain ⟨y, e⟩ := drev_ok h
  rw [e]
  refine ⟨?_, ?_⟩
  · show (dsent _ _).2 m = _
    rw [dsent_ne (by omega)]
    exact drec_ok d m _ y
  · show (dsent _ _).1 10 m = _
    rw [dsent_1, drec_10, if_neg (fun z => by rw [y] at z; cases z.1)]
/-- the VOIDS behind voidRest -/
theorem vrest_m {t w : Int32} (hm : m < 4) (h : (vrest d m t w).2 = false) (h5 : fR (d.2 m) 5 (Int32.ofNat m) t = none) : vmore m t w (voidsOf (d.2 m) (Int32.ofNat m)) = voidsOf ((vrest d m t w).1.2 m) (Int32.ofNat m) ∧ asks ((vrest d m t w).1.2 m) = asks (d.2 m) ∧ (vrest d m t w).1.1 10 m = d.1 10 m := by
  unfold vrest vmore at *
  by_cases c : 0 < w
  · rw [if_pos c] at h ⊢
    rw [if_pos c]
    obtain ⟨e1, e2⟩ := drev_m hm h
    refine ⟨?_, ?_, e2⟩
    · rw [e1]
      exact (voids_4 rfl h5).symm
    · rw [e1, asks_snoc]
      rfl
  · rw [if_neg c] at h ⊢
    rw [if_neg c]
    exact ⟨rfl, rfl, rfl⟩
noncomputable def dcame (d : DS) (m : Nat) (t : Int32) : Int32 := if d.1 14 m = t then d.1 15 m else 0
theorem c_endPay (h : KM d m tr am (voidsOf (d.2 m) (Int32.ofNat m)) st S) (hro : ro S) (hm : m < 4) (ham : am = amtOf (d.2 m) (Int32.ofNat m) tr) (h5' : fR (d.2 m) 5 (Int32.ofNat m) tr = none) (hl : (d.2 m).length ≤ 1090) (h5 : (d.2 5).length ≤ 3000) (hv : (voidsOf (d.2 m) (Int32.ofNat m)).length ≤ 512)
    (h1 : (dpaid d m tr (dcame d m tr)).2 = true → kT (dpaid d m tr (dcame d m tr)).1 S 14 P)
    (h0 : (dpaid d m tr (dcame d m tr)).2 = false → ∀ S', KM (dpaid d m tr (dcame d m tr)).1 m tr am (voidsOf ((dpaid d m tr (dcame d m tr)).1.2 m) (Int32.ofNat m)) st S' → asks ((dpaid d m tr (dcame d m tr)).1.2 m) = asks (d.2 m) → (dpaid d m tr (dcame d m tr)).1.1 10 m = d.1 10 m → fc S S' → P (.inl none) S') : Y_M_endPayment 9 8597 [xv_r 3 m] S P := by
  obtain ⟨fd, hd⟩ := h.dobj hm
  refine x_go.run mn_M_endPayment 30 ?_
  refine ⟨nl rfl, _, _, (h.obj hm), rfl, ?_⟩
  refine ⟨nl rfl, _, _, (h.obj hm), rfl, ?_⟩
  refine ⟨nl rfl, ⟨_, hd⟩, rfl, nl rfl, 0, 0, Nat.zero_le _, Nat.zero_le _, c_cameOut (m := m) h hm ?_⟩
  show x_run b_M_endPayment P (x_go b_M_endPayment P) 25 11 [some (xv_r 3 m), none] [xv_i (dcame d m tr)] S 9 8597
  unfold dpaid at h0 h1
  generalize hv' : dcame d m tr = v at *
  refine ⟨nl rfl, _, _, (h.obj hm), rfl, ?_⟩
  obtain ⟨n, -, hn, -⟩ := h.rf.fr
  refine ⟨nl rfl, nl rfl, 11, n, nl rfl, hn, ?_⟩
  have k0 := h.new hn (.inl (6, xD6))
  refine ⟨nl rfl, _, _, (k0.obj hm), rfl, ?_⟩
  refine ⟨nl rfl, _, _, (k0.obj hm), rfl, ?_⟩
  refine ⟨rfl, nl rfl, 0, 0, Nat.zero_le _, Nat.zero_le _, c_einit2 3 (Int32.ofNat m) tr v (x_up_self _ _ _ _) ?_⟩
  rw [x_up_up]
  have k1 := h.new hn (.inl (6, eR (3, Int32.ofNat m, tr, 0, v, 0)))
  have p1 : x_up S 11 n (.inl (6, eR (3, Int32.ofNat m, tr, 0, v, 0))) 11 n = some (.inl (6, eR (3, Int32.ofNat m, tr, 0, v, 0))) := x_up_self _ _ _ _
  have f1 : fc S (x_up S 11 n (.inl (6, eR (3, Int32.ofNat m, tr, 0, v, 0)))) := fc.rf.up (Or.inl (by decide))
  generalize x_up S 11 n (.inl (6, eR (3, Int32.ofNat m, tr, 0, v, 0))) = S1 at k1 p1 f1 ⊢
  obtain ⟨fj, hj⟩ := k1.jobj hm
  refine ⟨nl rfl, ⟨_, hj⟩, rfl, nl rfl, 2, 1656, nl rfl, nl rfl, c_wr (m := m) k1 hm p1 (by omega) (hro.fc f1).2.2.2.2.2 (Nat.le_refl _) (Nat.le_refl _) (fun hf => ?_) (fun hf S2 k2 f2 _ g2 => ?_)⟩
  · rw [dthen_t hf] at h1
    exact (h1 hf).tr f1
  · rw [dthen_f hf] at h0 h1
    have ed : (drecB d m (3, Int32.ofNat m, tr, 0, v, 0)).1.2 m = d.2 m ++ [(3, Int32.ofNat m, tr, 0, v, 0)] := drecB_2 hf
    have e5 : (drecB d m (3, Int32.ofNat m, tr, 0, v, 0)).1.2 5 = d.2 5 := drec_ne (by omega)
    have e10 : (drecB d m (3, Int32.ofNat m, tr, 0, v, 0)).1.1 10 m = d.1 10 m := (STp.rec d hm _).2 hf
    have k2 : KM (drecB d m (3, Int32.ofNat m, tr, 0, v, 0)).1 m tr am (voidsOf (d.2 m) (Int32.ofNat m)) st S2 := k2
    generalize (drecB d m (3, Int32.ofNat m, tr, 0, v, 0)).1 = D at *
    have ev : voidsOf (D.2 m) (Int32.ofNat m) = voidsOf (d.2 m) (Int32.ofNat m) := by
      rw [ed]
      exact voids_x (show ¬ (3 : Int32) = 4 by decide) (show ¬ (3 : Int32) = 5 by decide)
    have ea : asks (D.2 m) = asks (d.2 m) := by
      rw [ed, asks_snoc]
      rfl
    have e55 : fR (D.2 m) 5 (Int32.ofNat m) tr = none := by
      rw [ed, fR_snoc_x (fun z => by have := z.1; cases this)]
      exact h5'
    have eam : amtOf (D.2 m) (Int32.ofNat m) tr = am := by
      rw [ed, amt_snocx (show ¬ (3 : Int32) = 1 by decide), ham]
    have er : drest D m tr v = vrest D m tr (am - v) := by
      unfold drest vrest
      rw [eam]
    rw [er] at h0 h1
    rw [← ev] at k2
    refine ⟨nl rfl, ⟨_, k2.obj hm⟩, rfl, nl rfl, 6, 6935, nl rfl, nl rfl, c_voidRest (m := m) k2 hm (by rw [ed, List.length_append]; show _ + 1 ≤ _; omega) (by rw [e5]; exact h5) (by rw [ev]; exact hv) (hro.fc (f1.tr f2)).2.2.2.2.2 (fun z => (h1 z).tr (f1.tr f2)) (fun z S3 k3 f3 => ?_)⟩
    obtain ⟨w1, w2, w3⟩ := vrest_m hm z e55
    rw [w1] at k3
    exact h0 z S3 k3 (w2.trans ea) (w3.trans e10) (f1.tr (f2.tr f3))
end CV
