section CZ
variable {S : XH} {P : XP} {d : DS} {m st : Nat} {tr am : Int32} {vs : List R6} {e : R6} {p : Nat}
noncomputable def dev (d : DS) (m : Nat) (t : Int32) : DS × Bool := if fR (d.2 m) 4 (Int32.ofNat m) t ≠ none ∧ fR (d.2 m) 5 (Int32.ofNat m) t = none then drecB d m (5, Int32.ofNat m, t, 0, 0, 0) else (d, false)
theorem c_endVoid {n : Nat} {t : Int32} (h : KM d m tr am (voidsOf (d.2 m) (Int32.ofNat m)) st S) (hro : ro S) (hm : m < 4) (hi : Inv n d) (hn : n ≤ 512)
    (h1 : (dev d m t).2 = true → kT (dev d m t).1 S 14 P)
    (h0 : (dev d m t).2 = false → ∀ S', KM (dev d m t).1 m tr am (voidsOf ((dev d m t).1.2 m) (Int32.ofNat m)) st S' → fc S S' → P (.inl none) S') : Y_M_endVoid 3 1662 [xv_r 3 m, xv_i t] S P := by
  obtain ⟨l1, l2⟩ := len_inv hi hn hm
  have hany := voids_any (m := m) (fun e he => (Jok.mem (hi.1 m hm).1.1 e he).1) t
  unfold dev at h0 h1
  refine x_go.run mn_M_endVoid 30 ?_
  refine ⟨nl rfl, ⟨_, h.obj hm⟩, rfl, nl rfl, 0, 0, Nat.zero_le _, Nat.zero_le _, c_isVoid (m := m) h hm (fun z => ?_) (fun z => ?_)⟩
  · rw [if_pos (hany.mp z)] at h0 h1
    refine ⟨fun c => absurd c (by decide), fun _ => ?_⟩
    refine ⟨nl rfl, _, _, (h.obj hm), rfl, ?_⟩
    obtain ⟨n', -, hn', -⟩ := h.rf.fr
    refine ⟨nl rfl, nl rfl, 11, n', nl rfl, hn', ?_⟩
    have k0 := h.new hn' (.inl (6, xD6))
    refine ⟨nl rfl, _, _, (k0.obj hm), rfl, ?_⟩
    refine ⟨rfl, nl rfl, 0, 0, Nat.zero_le _, Nat.zero_le _, c_einit2 5 (Int32.ofNat m) t 0 (x_up_self _ _ _ _) ?_⟩
    rw [x_up_up]
    have k1 := h.new hn' (.inl (6, eR (5, Int32.ofNat m, t, 0, 0, 0)))
    have p1 : x_up S 11 n' (.inl (6, eR (5, Int32.ofNat m, t, 0, 0, 0))) 11 n' = some (.inl (6, eR (5, Int32.ofNat m, t, 0, 0, 0))) := x_up_self _ _ _ _
    have g1 : fc S (x_up S 11 n' (.inl (6, eR (5, Int32.ofNat m, t, 0, 0, 0)))) := fc.rf.up (Or.inl (by decide))
    generalize x_up S 11 n' (.inl (6, eR (5, Int32.ofNat m, t, 0, 0, 0))) = S1 at k1 p1 g1 ⊢
    obtain ⟨fj, hjo⟩ := k1.jobj hm
    refine ⟨nl rfl, ⟨_, hjo⟩, rfl, nl rfl, 2, 1656, nl rfl, nl rfl, c_wr (m := m) k1 hm p1 (by omega) (hro.fc g1).2.2.2.2.2 (Nat.le_refl _) (Nat.le_refl _) (fun hf => (h1 hf).tr g1) (fun hf S2 k2 g2 _ _ => ?_)⟩
    have h0 := h0 hf
    refine ⟨nl rfl, ⟨_, k2.obj hm⟩, rfl, nl rfl, 0, 0, Nat.zero_le _, Nat.zero_le _, c_forget (m := m) k2 hm fun S3 k3 g3 => ?_⟩
    have ev : voidsOf ((drecB d m (5, Int32.ofNat m, t, 0, 0, 0)).1.2 m) (Int32.ofNat m) = (voidsOf (d.2 m) (Int32.ofNat m)).filter (nott t) := by
      rw [drecB_2 hf]
      exact voids_5 rfl rfl
    rw [ev] at h0
    exact h0 S3 k3 (g1.tr (g2.tr g3))
  · rw [if_neg (fun y => z (hany.mpr y))] at h0
    exact ⟨fun _ => h0 rfl S h fc.rf, fun c => (c rfl).elim⟩
theorem c_awaited {t : Int32} (h : KM d m tr am vs st S) (hm : m < 4) (hs : st < 4) (h1 : st = 3 → t = tr → P (.inl (some (xv_i 1))) S) (h0 : ¬ (st = 3 ∧ t = tr) → P (.inl (some (xv_i 0))) S) : Y_M_isAwaited 0 0 [xv_r 3 m, xv_i t] S P := by
  refine x_go.run mn_M_isAwaited 15 ?_
  refine ⟨nl rfl, _, _, (h.obj hm), rfl, ?_⟩
  refine ⟨Or.inr (Or.inr ⟨rfl, Or.inl rfl⟩), fun c => ⟨Or.inl rfl, h0 fun z => c (by rw [z.1])⟩, fun c => ?_⟩
  have e : st = 3 := by
    have := Classical.not_not.mp c
    simpa using this
  refine ⟨nl rfl, _, _, (h.obj hm), rfl, ?_⟩
  exact ⟨fun c => ⟨Or.inl rfl, h0 fun z => c z.2⟩, fun c => ⟨Or.inr rfl, h1 e (Classical.not_not.mp c)⟩⟩
theorem ty_m {x y : Int32} {k : Nat} (hx : x = 210 ∨ x = 430 ∨ x = 510) (hk : (k = 1 ∧ y = (210 : Int32)) ∨ (k = 3 ∧ y = 430)) : (some (50, tyN x) = some (50, k)) ↔ x = y := by
  rcases hx with rfl | rfl | rfl <;> rcases hk with ⟨rfl, rfl⟩ | ⟨rfl, rfl⟩ <;> decide
set_option maxHeartbeats 4000000 in
theorem c_mrecv {n : Nat} (hK : KS d S) (hro : ro S) (hm : m < 4) (hi : Inv n d) (hn : n ≤ 512) (h5 : (d.2 5).length ≤ 3000) (hp : S 10 p = some (.inl (7, gR e))) (ht : e.1 = 210 ∨ e.1 = 430 ∨ e.1 = 510)
    (hoff : d.1 10 m = 0 → kN d S (fun S' => P (.inl none) S')) (h1 : d.1 10 m ≠ 0 → (dmach d m e).2 = true → kT (dmach d m e).1 S 14 P) (h0 : d.1 10 m ≠ 0 → (dmach d m e).2 = false → kN (dmach d m e).1 S (fun S' => P (.inl none) S')) : Y_M_receive 12 10259 [xv_r 3 m, xv_r 10 p] S P := by
  obtain ⟨q, s, cp, ls, hR, hA, hc, hF⟩ := id hK
  have hM := hR.2.2.2.1 m hm
  refine x_go.run mn_M_receive 60 ?_
  refine ⟨nl rfl, _, _, hM, rfl, ?_⟩
  refine ⟨nl rfl, ⟨_, hR.2.2.2.2.1 m (by omega)⟩, rfl, nl rfl, 0, 0, Nat.zero_le _, Nat.zero_le _, c_ison hR (by omega) (by rw [hA.on hm]; exact on01) ?_⟩
  rw [hA.on hm]
  refine ⟨fun z => ?_, fun z => ?_⟩
  rotate_left
  · exact hoff (on_iff.mp (Classical.not_not.mp z)) S hK fc.rf
  have on : d.1 10 m ≠ 0 := fun y => z (on_iff.mpr y)
  have h1 := h1 on
  have h0 := h0 on
  obtain ⟨am, st, k0, st4, est, eam⟩ := hK.km hm on
  have est4 : st = 3 ↔ d.1 10 m = 4 := by
    rw [est]
    constructor
    · rintro rfl
      rfl
    · intro y
      have := (z_eq (b := 4) (by omega) (by decide)).mp y
      omega
  obtain ⟨l1, l2⟩ := len_inv hi hn hm
  unfold dmach at h0 h1
  refine ⟨nl rfl, ⟨_, hp⟩, rfl, nl rfl, 0, 0, Nat.zero_le _, Nat.zero_le _, c_gtype hp ?_⟩
  refine ⟨Or.inr (Or.inr ⟨rfl, Or.inr (Or.inl rfl)⟩), fun c => ?_, fun c => ?_⟩
  · have n4 : e.1 ≠ 430 := fun y => c ((ty_m ht (Or.inr ⟨rfl, rfl⟩)).mpr y)
    refine ⟨nl rfl, ⟨_, hp⟩, rfl, nl rfl, 0, 0, Nat.zero_le _, Nat.zero_le _, c_gtype hp ?_⟩
    refine ⟨Or.inr (Or.inr ⟨rfl, Or.inr (Or.inl rfl)⟩), fun c => ?_, fun c => ?_⟩
    · have n2 : e.1 ≠ 210 := fun y => c ((ty_m ht (Or.inl ⟨rfl, rfl⟩)).mpr y)
      rw [if_neg n2, if_neg (fun y => n4 y.1)] at h0
      exact h0 rfl S hK fc.rf
    · have e2 : e.1 = 210 := (ty_m ht (Or.inl ⟨rfl, rfl⟩)).mp (Classical.not_not.mp c)
      rw [if_pos e2] at h0 h1
      refine ⟨nl rfl, ⟨_, hp⟩, rfl, nl rfl, 0, 0, Nat.zero_le _, Nat.zero_le _, c_gtrace hp ?_⟩
      refine ⟨nl rfl, ⟨_, hM⟩, rfl, nl rfl, 0, 0, Nat.zero_le _, Nat.zero_le _, c_awaited (m := m) k0 hm st4 (fun y1 y2 => ?_) (fun y => ?_)⟩
      · have e4 : d.1 10 m = 4 := est4.mp y1
        have eam := eam e4
        refine ⟨fun c => absurd c (by decide), fun _ => ?_⟩
        refine ⟨nl rfl, ⟨_, hp⟩, rfl, nl rfl, 0, 0, Nat.zero_le _, Nat.zero_le _, c_gans hp ?_⟩
        -- the state is EMPTY again
        have fin : ∀ (D : DS) (S1 : XH) (u w : Nat), KM D m (dlast d m) am (voidsOf (D.2 m) (Int32.ofNat m)) st S1 → asks (D.2 m) = asks (d.2 m) → D.1 10 m ≠ 0 → fc S S1 → kN (dset D 10 m 1) S (fun S' => P (.inl none) S') → x_go b_M_receive P 91 [some (xv_r 3 m), some (xv_r 10 p)] [] S1 u w := by
          intro D S1 u w k1 ea e10 g1 hk
          refine x_go.run mn_M_receive 4 ?_
          refine ⟨trivial, _, k1.obj hm, nl rfl, nl rfl, ?_⟩
          have k2 := k1.toSt hm e10 (k := 0) (by decide) rfl rfl
          refine hk _ (k2.ks fun _ => ⟨dset_at' _ _ _ _, ?_, rfl, fun y => ?_⟩) (g1.tr (fc.rf.up (Or.inl (by simp))))
          · show _ = Int32.ofNat (asks (D.2 m))
            rw [ea]
          · rw [dset_at'] at y
            cases y
        refine ⟨fun c => ?_, fun c => ?_⟩
        · have c : ¬ e.2.2.2.2.2 = 0 := c
          unfold dansw at h0 h1
          rw [if_pos ⟨e4, y2⟩, if_neg c] at h0 h1
          have ht' : e.2.2.1 = dlast d m := y2
          rw [ht'] at h0 h1
          refine ⟨nl rfl, _, _, (k0.obj hm), rfl, ?_⟩
          obtain ⟨n', -, hn', -⟩ := hF.fr
          refine ⟨nl rfl, nl rfl, 11, n', nl rfl, hn', ?_⟩
          have kk := k0.new hn' (.inl (6, xD6))
          refine ⟨nl rfl, _, _, (kk.obj hm), rfl, ?_⟩
          refine ⟨nl rfl, _, _, (kk.obj hm), rfl, ?_⟩
          refine ⟨rfl, nl rfl, 0, 0, Nat.zero_le _, Nat.zero_le _, c_einit2 5 (Int32.ofNat m) (dlast d m) 0 (x_up_self _ _ _ _) ?_⟩
          rw [x_up_up]
          have k1 := k0.new hn' (.inl (6, eR (5, Int32.ofNat m, dlast d m, 0, 0, 0)))
          have p1 : x_up S 11 n' (.inl (6, eR (5, Int32.ofNat m, dlast d m, 0, 0, 0))) 11 n' = some (.inl (6, eR (5, Int32.ofNat m, dlast d m, 0, 0, 0))) := x_up_self _ _ _ _
          have g1 : fc S (x_up S 11 n' (.inl (6, eR (5, Int32.ofNat m, dlast d m, 0, 0, 0)))) := fc.rf.up (Or.inl (by decide))
          generalize x_up S 11 n' (.inl (6, eR (5, Int32.ofNat m, dlast d m, 0, 0, 0))) = S1 at k1 p1 g1 ⊢
          obtain ⟨fj, hjo⟩ := k1.jobj hm
          refine ⟨nl rfl, ⟨_, hjo⟩, rfl, nl rfl, 2, 1656, nl rfl, nl rfl, c_wr (m := m) k1 hm p1 (by omega) (hro.fc g1).2.2.2.2.2 (Nat.le_refl _) (Nat.le_refl _) (fun hf => ?_) (fun hf S2 k2 g2 _ _ => ?_)⟩
          · rw [dthen_t hf] at h1
            exact (h1 hf).tr g1
          · rw [dthen_f hf] at h0
            have ed : (drecB d m (5, Int32.ofNat m, dlast d m, 0, 0, 0)).1.2 m = d.2 m ++ [(5, Int32.ofNat m, dlast d m, 0, 0, 0)] := drecB_2 hf
            have e10 : (drecB d m (5, Int32.ofNat m, dlast d m, 0, 0, 0)).1.1 10 m = d.1 10 m := (STp.rec d hm _).2 hf
            have ev : voidsOf ((drecB d m (5, Int32.ofNat m, dlast d m, 0, 0, 0)).1.2 m) (Int32.ofNat m) = voidsOf (d.2 m) (Int32.ofNat m) := by
              rw [ed, voids_5 rfl rfl]
              refine List.filter_eq_self.mpr fun x hx => ?_
              have f4 := ((hi.1 m hm).2.1 e4).1.2.2.2.1
              have hxt : ¬ x.2.2.1 = dlast d m := fun y => ((voids_any (m := m) (fun e he => (Jok.mem (hi.1 m hm).1.1 e he).1) (dlast d m)).mp ⟨x, hx, y⟩).1 f4
              simp [hxt]
            refine x_go.back mn_M_receive (fin _ S2 _ _ ?_ ?_ (by rw [e10]; exact on) (g1.tr g2) (h0 rfl))
            · rw [ev]
              exact k2
            · rw [ed, asks_snoc]
              rfl
        · have c : e.2.2.2.2.2 = 0 := Classical.not_not.mp c
          have ht' : e.2.2.1 = dlast d m := y2
          rw [c, ht', dansw_po e4 rfl] at h0 h1
          refine ⟨nl rfl, ⟨_, hM⟩, rfl, nl rfl, 12, 10259, nl rfl, nl rfl, c_payOut (m := m) k0 hro hm hi hn h5 e4 eam (fun z => ?_) (fun z S1 k1 a1 b1 g1 => ?_)⟩
          · rw [dthen_t z] at h1
            exact h1 z
          · rw [dthen_f z] at h0
            exact x_go.back mn_M_receive (x_go.run mn_M_receive 1 (fin _ S1 _ _ k1 a1 (by rw [b1]; exact on) g1 (h0 rfl)))
      · have hd : dansw d m e.2.2.1 e.2.2.2.2.2 = (d, false) := by
          unfold dansw
          rw [if_neg (fun w => y ⟨est4.mpr w.1, w.2⟩)]
        rw [hd] at h0
        exact ⟨fun _ => h0 rfl S hK fc.rf, fun c => (c rfl).elim⟩
  · have e4 : e.1 = 430 := (ty_m ht (Or.inr ⟨rfl, rfl⟩)).mp (Classical.not_not.mp c)
    have ed : (if e.1 = 210 then dansw d m e.2.2.1 e.2.2.2.2.2 else if e.1 = 430 ∧ fR (d.2 m) 4 (Int32.ofNat m) e.2.2.1 ≠ none ∧ fR (d.2 m) 5 (Int32.ofNat m) e.2.2.1 = none then drecB d m (5, Int32.ofNat m, e.2.2.1, 0, 0, 0) else (d, false)) = dev d m e.2.2.1 := by
      rw [if_neg (by rw [e4]; decide)]
      unfold dev
      by_cases y : fR (d.2 m) 4 (Int32.ofNat m) e.2.2.1 ≠ none ∧ fR (d.2 m) 5 (Int32.ofNat m) e.2.2.1 = none
      · rw [if_pos ⟨e4, y⟩, if_pos y]
      · rw [if_neg (fun w => y w.2), if_neg y]
    rw [ed] at h0 h1
    refine ⟨nl rfl, ⟨_, hp⟩, rfl, nl rfl, 0, 0, Nat.zero_le _, Nat.zero_le _, c_gtrace hp ?_⟩
    refine ⟨nl rfl, ⟨_, hM⟩, rfl, nl rfl, 3, 1662, nl rfl, nl rfl, c_endVoid (m := m) k0 hro hm hi hn h1 (fun z S1 k1 g1 => ?_)⟩
    refine h0 z S1 (k1.ks fun hz => ?_) g1
    unfold dev at z hz ⊢
    by_cases y : fR (d.2 m) 4 (Int32.ofNat m) e.2.2.1 ≠ none ∧ fR (d.2 m) 5 (Int32.ofNat m) e.2.2.1 = none
    · rw [if_pos y] at z hz ⊢
      have ed2 : (drecB d m (5, Int32.ofNat m, e.2.2.1, 0, 0, 0)).1.2 m = d.2 m ++ [(5, Int32.ofNat m, e.2.2.1, 0, 0, 0)] := drecB_2 z
      have e10 : (drecB d m (5, Int32.ofNat m, e.2.2.1, 0, 0, 0)).1.1 10 m = d.1 10 m := (STp.rec d hm _).2 z
      have ea : asks ((drecB d m (5, Int32.ofNat m, e.2.2.1, 0, 0, 0)).1.2 m) = asks (d.2 m) := by
        rw [ed2, asks_snoc]
        rfl
      unfold dlast
      rw [e10, ea]
      refine ⟨est, rfl, rfl, fun w => ?_⟩
      rw [eam w, ed2, amt_snocx (show ¬ (5 : Int32) = 1 by decide)]
    · rw [if_neg y]
      exact ⟨est, rfl, rfl, eam⟩
end CZ
