section CL
variable {S : XH} {P : XP} {d : DS} {m st : Nat} {tr am : Int32} {vs : List R6}
def oMk (m st : Nat) (acc wp tr am : Int32) : List XV := [xv_i (Int32.ofNat m), xv_r 1 0, xv_r 8 0, xv_r 4 m, xv_r 5 m, xv_r 49 st, xv_i acc, xv_i wp, xv_i tr, xv_i am, xv_r 6 (6 + m)]
theorem KM.obj (h : KM d m tr am vs st S) (hm : m < 4) : S 3 m = some (.inl (3, oMk m st (d.1 11 m) (d.1 12 m) tr am)) := by
  obtain ⟨q, s, cp, ls, hR, hX, hc, hF, e3, e4, e6, es⟩ := h
  obtain ⟨b1, b2, -⟩ := hX.1.2.1 m hm
  rw [hR.2.2.2.1 m hm]
  unfold oM oMk
  rw [b1, b2, e3, e4, es]
theorem KM.jobj (h : KM d m tr am vs st S) (hm : m < 4) : ∃ fs, S 4 m = some (.inl (4, fs)) := by
  obtain ⟨q, s, cp, ls, hR, -⟩ := h
  exact ⟨_, hR.2.2.2.2.1 m (by omega)⟩
theorem KM.dobj (h : KM d m tr am vs st S) (hm : m < 4) : ∃ fs, S 5 m = some (.inl (5, fs)) := by
  obtain ⟨q, s, cp, ls, hR, -⟩ := h
  exact ⟨_, hR.2.2.2.2.2.1 m hm⟩
theorem KM.net (h : KM d m tr am vs st S) : ∃ fs, S 1 0 = some (.inl (1, fs)) := by
  obtain ⟨q, s, cp, ls, hR, -⟩ := h
  exact ⟨_, hR.2.1⟩
theorem KM.vobj (h : KM d m tr am vs st S) (hm : m < 4) : ∃ fs, S 6 (6 + m) = some (.inl (8, fs)) := by
  obtain ⟨q, s, cp, ls, hR, -⟩ := h
  exact (hR.2.2.2.2.2.2.2.2 (6 + m) (by omega)).obj
noncomputable def vrest (d : DS) (m : Nat) (tr w : Int32) : DS × Bool := if 0 < w then drev d m tr w else (d, false)
def vmore (m : Nat) (tr w : Int32) (vs : List R6) : List R6 := if 0 < w then vs ++ [(4, Int32.ofNat m, tr, 0, w, 0)] else vs
theorem c_voidRest {v : Int32} (h : KM d m tr am vs st S) (hm : m < 4) (hl : (d.2 m).length ≤ 1100) (h5 : (d.2 5).length ≤ 3000) (hv : vs.length ≤ 512) (h54 : rk S)
    (h1 : (vrest d m tr (am - v)).2 = true → kT (vrest d m tr (am - v)).1 S 14 P)
    (h0 : (vrest d m tr (am - v)).2 = false → ∀ S', KM (vrest d m tr (am - v)).1 m tr am (vmore m tr (am - v) vs) st S' → fc S S' → P (.inl none) S') : Y_M_voidRest 6 6935 [xv_r 3 m, xv_i v] S P := by
  unfold vrest vmore at *
  refine x_go.run mn_M_voidRest 60 ?_
  refine ⟨nl rfl, _, _, (h.obj hm), rfl, ?_⟩
  refine ⟨fun c => ?_, fun c => ?_⟩
  · rw [if_neg (Int32.not_lt.mpr c)] at h0 h1
    rw [if_neg (Int32.not_lt.mpr c)] at h0
    exact h0 rfl S h fc.rf
  · have c : 0 < am - v := Int32.not_le.mp c
    rw [if_pos c] at h0 h1
    rw [if_pos c] at h0
    obtain ⟨n, -, hn, -⟩ := h.rf.fr
    refine ⟨nl rfl, nl rfl, 11, n, nl rfl, hn, ?_⟩
    have k0 := h.new hn (.inl (6, xD6))
    refine ⟨nl rfl, _, _, (k0.obj hm), rfl, ?_⟩
    refine ⟨nl rfl, _, _, (k0.obj hm), rfl, ?_⟩
    refine ⟨rfl, nl rfl, 0, 0, Nat.zero_le _, Nat.zero_le _, c_einit2 4 (Int32.ofNat m) tr (am - v) (x_up_self _ _ _ _) ?_⟩
    rw [x_up_up]
    have k1 := h.new hn (.inl (6, eR (4, Int32.ofNat m, tr, 0, am - v, 0)))
    have p1 : x_up S 11 n (.inl (6, eR (4, Int32.ofNat m, tr, 0, am - v, 0))) 11 n = some (.inl (6, eR (4, Int32.ofNat m, tr, 0, am - v, 0))) := x_up_self _ _ _ _
    have f1 : fc S (x_up S 11 n (.inl (6, eR (4, Int32.ofNat m, tr, 0, am - v, 0)))) := fc.rf.up (Or.inl (by decide))
    generalize x_up S 11 n (.inl (6, eR (4, Int32.ofNat m, tr, 0, am - v, 0))) = S1 at k1 p1 f1 ⊢
    have h54' : rk S1 := h54.fc f1
    obtain ⟨fj, hj⟩ := k1.jobj hm
    refine ⟨nl rfl, _, _, (k1.obj hm), rfl, ?_⟩
    refine ⟨nl rfl, ⟨_, hj⟩, rfl, nl rfl, 2, 1656, nl rfl, nl rfl, c_wr k1 hm p1 hl h54' (Nat.le_refl _) (Nat.le_refl _) (fun hf => ?_) (fun hf S2 k2 f2 _ g2 => ?_)⟩
    · have ed : drev d m tr (am - v) = drecB d m (4, Int32.ofNat m, tr, 0, am - v, 0) := dthen_t hf
      rw [ed] at h1
      exact (h1 hf).tr f1
    · have ed : drev d m tr (am - v) = (dsent (drec d m (4, Int32.ofNat m, tr, 0, am - v, 0)) (420, Int32.ofNat m, tr, 0, am - v, 0), false) := dthen_f hf
      rw [ed] at h0
      have h0 := h0 rfl
      have p2 : S2 11 n = some (.inl (6, eR (4, Int32.ofNat m, tr, 0, am - v, 0))) := by
        rw [g2]
        exact p1
      have h54'' : rk S2 := h54'.fc f2
      obtain ⟨fv, hvo⟩ := k2.vobj hm
      obtain ⟨mc, ms, hmc, hms, hadd⟩ := c_va k2 hm p2 hv h54''
      refine ⟨nl rfl, _, _, (k2.obj hm), rfl, ?_⟩
      refine ⟨nl rfl, ⟨_, hvo⟩, rfl, nl rfl, mc, ms, by show mc ≤ 3; omega, by show ms ≤ 5273; omega, hadd _ fun S3 k3 f3 _ g3 => ?_⟩
      have h54''' : rk S3 := h54''.fc f3
      have hl5 : ((drec d m (4, Int32.ofNat m, tr, 0, am - v, 0)).2 5).length ≤ 3000 := by
        rw [drec_ne (by omega)]
        exact h5
      obtain ⟨fn, hnet⟩ := k3.net
      refine ⟨nl rfl, _, _, (k3.obj hm), rfl, ?_⟩
      refine ⟨nl rfl, _, _, (k3.obj hm), rfl, ?_⟩
      refine ⟨nl rfl, _, _, (k3.obj hm), rfl, ?_⟩
      refine ⟨nl rfl, ⟨_, hnet⟩, rfl, nl rfl, 2, 4505, by show 2 ≤ 3 - mc; omega, by show 4505 ≤ 5273 - ms; omega, c_sd (420, Int32.ofNat m, tr, 0, am - v, 0) k3 hm (by show ¬ (420 : Int32) = 510; decide) hl5 h54''' (fun z => (nS_step z).2) (fun z => (nS_step z).1) fun S4 k4 f4 _ => ?_⟩
      exact h0 S4 k4 (f1.tr (f2.tr (f3.tr f4)))
end CL
