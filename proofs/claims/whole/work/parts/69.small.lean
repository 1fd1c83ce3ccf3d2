section CF
variable {q : Nat → Nat → Int32} {s cp : Nat → Nat} {ls : Nat → List R6} {S : XH} {P : XP} {d : DS}
theorem CB.note (h : CB d q ls) {m c : Nat} (hm : m < 4) (hc : c < 4) (v : Int32) : CB (dset d 13 (4 * m + c) v) (gs q (20 + m) (upd (q (20 + m)) c v)) ls := by
  obtain ⟨h1, h2, h3, h4, h5⟩ := h
  have e1 : ∀ k, k ≠ 13 → (dset d 13 (4 * m + c) v).1 k = d.1 k := fun k hk => dset_nt hk
  have e2 : ∀ k, k ≠ 20 + m → gs q (20 + m) (upd (q (20 + m)) c v) k = q k := fun k hk => gs_ne hk
  refine ⟨h1, fun m' hm' => ?_, ?_, fun w hw => ?_, fun a ha => ?_⟩
  · obtain ⟨a1, a2, a3, a4, a5, a6, a7, a8⟩ := h2 m' hm'
    rw [e2 1 (by omega), e2 2 (by omega), e2 5 (by omega), e2 8 (by omega), e2 9 (by omega), e2 10 (by omega), e2 11 (by omega), e1 11 (by decide), e1 12 (by decide), e1 10 (by decide), e1 17 (by decide), e1 14 (by decide), e1 15 (by decide), e1 16 (by decide)]
    refine ⟨a1, a2, a3, a4, a5, a6, a7, fun c' hc' => ?_⟩
    by_cases e : m' = m
    · subst e
      rw [gs_self]
      by_cases ec : c' = c
      · subst ec
        rw [upd_self, dset_at']
      · rw [upd_ne ec, dset_nj (by omega)]
        exact a8 c' hc'
    · rw [e2 (20 + m') (by omega), dset_nj (by omega)]
      exact a8 c' hc'
  · rw [e2 5 (by omega), e1 9 (by decide)]
    exact h3
  · rw [e2 7 (by omega), e2 6 (by omega), e1 8 (by decide), e1 7 (by decide)]
    exact h4 w hw
  · rw [e2 12 (by omega), e1 18 (by decide)]
    exact h5 a ha
/-- a dispenser's notes -/
theorem RC.notes (h : RC q s cp ls S) {m : Nat} (hm : m < 4) : S 8 (2 + m) = some (.inr (0, 4, .inl (q (20 + m)))) := by
  have := h.2.2.2.2.2.2.1 (2 + m) (by omega)
  rw [show an (2 + m) = 4 from if_neg (by omega), show aq (2 + m) = 20 + m by unfold aq; rw [if_neg (by omega), if_neg (by omega)]; omega] at this
  exact this
theorem RC.putN (h : RC q s cp ls S) {m : Nat} (hm : m < 4) (f : Nat → Int32) : RC (gs q (20 + m) f) s cp ls (x_up S 8 (2 + m) (.inr (0, 4, .inl f))) := by
  have := h.putA (n := 2 + m) (by omega) f
  rw [show an (2 + m) = 4 from if_neg (by omega), show aq (2 + m) = 20 + m by unfold aq; rw [if_neg (by omega), if_neg (by omega)]; omega] at this
  exact this
theorem c_fill {m c : Nat} {N : Int32} (hK : KS d S) (hm : m < 4) (hcc : c < 4) (h0 : (dload d m c N).2.1 = 2 → kT (dload d m c N).1 S 12 P) (h1 : (dload d m c N).2.1 = 0 → kN (dload d m c N).1 S (fun S' => P (.inl (some (xv_i (dload d m c N).2.2))) S')) : Y_D_fill 1 6 [xv_r 5 m, xv_i (Int32.ofNat c), xv_i N] S P := by
  obtain ⟨q, s, cp, ls, hR, hA, hc, hF⟩ := id hK
  have hD := hR.2.2.2.2.2.1 m hm
  have hN := hR.notes hm
  have e8 := (hA.1.2.1 m hm).2.2.2.2.2.2.2 c hcc
  refine x_go.run mn_D_fill 40 ?_
  refine ⟨nl rfl, _, _, hD, rfl, ?_⟩
  refine ⟨_, _, hN, z_in hcc (by decide), ?_⟩
  rw [z_nat (by omega), e8]
  unfold dload at h0 h1
  refine ⟨fun c1 => ?_, fun c1 => ?_⟩
  · rw [if_neg (Int32.not_le.mpr c1)] at h0
    exact ⟨nl rfl, rfl, nl rfl, 1, 6, nl rfl, nl rfl, c_demand0 hF (nl rfl) (nl rfl) fun nx hn => (h0 rfl).use hK hn⟩
  · rw [if_pos (Int32.not_lt.mp c1)] at h1
    refine ⟨nl rfl, rfl, nl rfl, 0, 0, Nat.zero_le _, Nat.zero_le _, c_demand1 ?_⟩
    refine ⟨nl rfl, _, _, hD, rfl, ?_⟩
    refine ⟨_, _, hN, z_in hcc (by decide), ?_⟩
    refine ⟨_, _, hN, nl rfl, z_in hcc (by decide), ?_⟩
    rw [z_nat (by omega), e8]
    have r1 := hR.putN hm (upd (q (20 + m)) c (d.1 13 (4 * m + c) + N))
    have hB := hA.1.note hm hcc (d.1 13 (4 * m + c) + N)
    refine ⟨nl rfl, _, _, (r1.2.2.2.2.2.1 m hm), rfl, ?_⟩
    refine ⟨_, _, r1.notes hm, z_in hcc (by decide), ?_⟩
    rw [z_nat (by omega), gs_at]
    refine h1 rfl _ ⟨_, _, cp, ls, r1, hA.mach (m := m) hB ?_ (fun m' hm' hne => ⟨?_, rfl, ?_, ?_, rfl, rfl⟩) rfl ?_ ?_ rfl ?_, hc.eq rfl, hF.up⟩ (fc.rf.up (Or.inl (by simp)))
    · exact (hA.2.1 m hm).keep (by rw [dset_nt (by decide)]) rfl (by rw [gs_ne (by omega)]) (by rw [gs_ne (by omega)]) rfl rfl
    · rw [dset_nt (by decide)]
    · rw [gs_ne (by omega)]
    · rw [gs_ne (by omega)]
    · rw [gs_ne (by omega)]
    · rw [gs_ne (by omega)]
    · rw [gs_ne (by omega)]
theorem c_load {m c n : Int32} (hK : KS d S) (hb : ¬ (0 ≤ m ∧ m ≤ 3 ∧ 0 ≤ c ∧ c ≤ 3 ∧ 1 ≤ n ∧ n ≤ 100) → kT d S 11 P) (ho : ∀ M C, M < 4 → C < 4 → m = Int32.ofNat M → c = Int32.ofNat C → 1 ≤ n → n ≤ 100 → ((dload d M C n).2.1 = 2 → kT (dload d M C n).1 S 12 P) ∧ ((dload d M C n).2.1 = 0 → kN (dload d M C n).1 S (fun S' => P (.inl (some (xv_i (dload d M C n).2.2))) S'))) : Y_C_load 3 18 [xv_r 0 0, xv_i m, xv_i c, xv_i n] S P := by
  obtain ⟨q, s, cp, ls, hR, hA, hc, hF⟩ := id hK
  refine x_go.run mn_C_load 30 ?_
  refine ⟨nl rfl, ⟨_, hR.1⟩, rfl, nl rfl, 1, 6, nl rfl, nl rfl, c_machineAt hR hF (fun h nx hn => (hb fun z => h ⟨z.1, z.2.1⟩).use hK hn) fun M hM e => ?_⟩
  subst e
  have bad : ¬ (0 ≤ c ∧ c ≤ 3 ∧ 1 ≤ n ∧ n ≤ 100) → x_go b_C_load P 29 [some (xv_r 0 0), some (xv_i (Int32.ofNat M)), some (xv_i c), some (xv_i n), some (xv_r 3 M)] [] S 2 12 := fun h => by
    refine x_go.run mn_C_load 3 ?_
    exact ⟨nl rfl, rfl, nl rfl, 1, 6, nl rfl, nl rfl, c_allow0 hF (nl rfl) (nl rfl) fun nx hn => (hb fun z => h z.2.2).use hK hn⟩
  refine ⟨nl rfl, rfl, nl rfl, 0, 0, Nat.zero_le _, Nat.zero_le _, c_isCassette (fun g1 g2 => ?_) (fun g => ?_)⟩
  · refine ⟨fun c1 => absurd c1 (by decide), fun _ => ?_⟩
    refine ⟨fun c => x_go.back mn_C_load (bad fun z => Int32.not_lt.mpr z.2.2.1 c), fun c1 => ⟨fun c' => x_go.back mn_C_load (bad fun z => Int32.not_lt.mpr z.2.2.2 c'), fun c' => ?_⟩⟩
    obtain ⟨C, hC, rfl⟩ := in_nat 3 (by decide) g1 g2
    obtain ⟨o1, o2⟩ := ho M C hM (by omega) rfl rfl (Int32.not_lt.mp c1) (Int32.not_lt.mp c')
    refine ⟨nl rfl, rfl, nl rfl, 0, 0, Nat.zero_le _, Nat.zero_le _, c_allow1 ?_⟩
    refine ⟨nl rfl, _, _, (hR.2.2.2.1 M hM), rfl, ?_⟩
    exact ⟨nl rfl, ⟨_, hR.2.2.2.2.2.1 M hM⟩, rfl, nl rfl, 1, 6, nl rfl, nl rfl, c_fill hK hM (by omega) o1 o2⟩
  · exact ⟨fun _ => x_go.back mn_C_load (bad fun z => g ⟨z.1, z.2.1⟩), fun c => (c rfl).elim⟩
theorem CB.plan (h : CB d q ls) {w : Nat} (k b : Int32) (hb : b ≤ 17) : CB (dset (dset d 7 w k) 8 w b) (gs (gs q 6 (upd (q 6) w k)) 7 (upd (gs q 6 (upd (q 6) w k) 7) w b)) ls := by
  obtain ⟨h1, h2, h3, h4, h5⟩ := h
  have e1 : ∀ n, n ≠ 7 → n ≠ 8 → (dset (dset d 7 w k) 8 w b).1 n = d.1 n := fun n a b => by rw [dset_nt b, dset_nt a]
  have e2 : ∀ n, n ≠ 6 → n ≠ 7 → gs (gs q 6 (upd (q 6) w k)) 7 (upd (gs q 6 (upd (q 6) w k) 7) w b) n = q n := fun n a b => by rw [gs_ne b, gs_ne a]
  refine ⟨h1, fun m hm => ?_, ?_, fun w' hw' => ?_, fun a ha => ?_⟩
  · rw [e2 1 (by decide) (by decide), e2 2 (by decide) (by decide), e2 5 (by decide) (by decide), e2 8 (by decide) (by decide), e2 9 (by decide) (by decide), e2 10 (by decide) (by decide), e2 11 (by decide) (by decide), e2 (20 + m) (by omega) (by omega), e1 11 (by decide) (by decide), e1 12 (by decide) (by decide), e1 10 (by decide) (by decide), e1 17 (by decide) (by decide), e1 14 (by decide) (by decide), e1 15 (by decide) (by decide), e1 16 (by decide) (by decide), e1 13 (by decide) (by decide)]
    exact h2 m hm
  · rw [e2 5 (by decide) (by decide), e1 9 (by decide) (by decide)]
    exact h3
  · have g6 : gs (gs q 6 (upd (q 6) w k)) 7 (upd (gs q 6 (upd (q 6) w k) 7) w b) 6 = upd (q 6) w k := by rw [gs_ne (by decide), gs_self]
    have g7 : gs (gs q 6 (upd (q 6) w k)) 7 (upd (gs q 6 (upd (q 6) w k) 7) w b) 7 = upd (q 7) w b := by rw [gs_self, gs_ne (by decide)]
    rw [g6, g7]
    by_cases e : w' = w
    · subst e
      rw [upd_self, upd_self, dset_at', dset_nt (by decide), dset_at']
      exact ⟨rfl, hb, fun _ => rfl⟩
    · rw [upd_ne e, upd_ne e, dset_nj e, dset_nt (show 8 ≠ 7 by decide), dset_nt (show 7 ≠ 8 by decide), dset_nj e]
      exact h4 w' hw'
  · rw [e2 12 (by decide) (by decide), e1 18 (by decide) (by decide)]
    exact h5 a ha
theorem c_plan {w : Nat} {k b : Int32} (hK : KS d S) (hw : w < 5) (hb : b ≤ 17) (h : kN (dset (dset d 7 w k) 8 w b) S (fun S' => P (.inl none) S')) : Y_J_planFailure 0 0 [xv_r 4 w, xv_i k, xv_i b] S P := by
  obtain ⟨q, s, cp, ls, hR, hA, hc, hF⟩ := id hK
  have r1 := hR.putJ hw (t := 6) ⟨by decide, by decide⟩ k
  have r2 := r1.putJ hw (t := 7) ⟨by decide, by decide⟩ b
  refine x_go.run mn_J_planFailure 12 ?_
  refine ⟨trivial, _, hR.2.2.2.2.1 w hw, nl rfl, nl rfl, ?_⟩
  refine ⟨trivial, _, r1.2.2.2.2.1 w hw, nl rfl, nl rfl, ?_⟩
  have hB := hA.1.plan (w := w) k b hb
  have e1 : (dset (dset d 7 w k) 8 w b).1 10 = d.1 10 := by rw [dset_nt (by decide), dset_nt (by decide)]
  refine h _ ⟨_, _, cp, ls, r2, ⟨hB, fun m hm => (hA.2.1 m hm).keep (by rw [e1]) rfl rfl rfl rfl rfl, hA.2.2.1.keep rfl rfl rfl, hA.2.2.2.keep rfl rfl⟩, hc.eq rfl, hF.up.up⟩ ((fc.rf.up (Or.inl (by simp))).up (Or.inl (by simp)))
theorem c_power {m k b : Int32} (hK : KS d S) (hb : ¬ (0 ≤ m ∧ m ≤ 4 ∧ 0 ≤ k ∧ k ≤ 50 ∧ 0 ≤ b ∧ b ≤ 17) → kT d S 11 P) (ho : ∀ M, M < 5 → m = Int32.ofNat M → 0 ≤ k → k ≤ 50 → 0 ≤ b → b ≤ 17 → kN (dset (dset d 7 M k) 8 M b) S (fun S' => P (.inl none) S')) : Y_C_power 3 18 [xv_r 0 0, xv_i m, xv_i k, xv_i b] S P := by
  obtain ⟨q, s, cp, ls, hR, hA, hc, hF⟩ := id hK
  have bad : ¬ (0 ≤ m ∧ m ≤ 4 ∧ 0 ≤ k ∧ k ≤ 50 ∧ 0 ≤ b ∧ b ≤ 17) → x_go b_C_power P 33 [some (xv_r 0 0), some (xv_i m), some (xv_i k), some (xv_i b), none] [] S 3 18 := fun h => by
    refine x_go.run mn_C_power 3 ?_
    exact ⟨nl rfl, rfl, nl rfl, 1, 6, nl rfl, nl rfl, c_allow0 hF (nl rfl) (nl rfl) fun nx hn => (hb h).use hK hn⟩
  refine x_go.run mn_C_power 50 ?_
  refine ⟨fun c => x_go.back mn_C_power (bad fun z => Int32.not_lt.mpr z.1 c), fun c1 => ⟨fun c => x_go.back mn_C_power (bad fun z => Int32.not_lt.mpr z.2.1 c), fun c2 => ⟨fun c => x_go.back mn_C_power (bad fun z => Int32.not_lt.mpr z.2.2.1 c), fun c3 => ⟨fun c => x_go.back mn_C_power (bad fun z => Int32.not_lt.mpr z.2.2.2.1 c), fun c4 => ⟨fun c => x_go.back mn_C_power (bad fun z => Int32.not_lt.mpr z.2.2.2.2.1 c), fun c5 => ⟨fun c => x_go.back mn_C_power (bad fun z => Int32.not_lt.mpr z.2.2.2.2.2 c), fun c6 => ?_⟩⟩⟩⟩⟩⟩
  obtain ⟨M, hM, rfl⟩ := in_nat 4 (by decide) (Int32.not_lt.mp c1) (Int32.not_lt.mp c2)
  have ho := ho M (by omega) rfl (Int32.not_lt.mp c3) (Int32.not_lt.mp c4) (Int32.not_lt.mp c5) (Int32.not_lt.mp c6)
  refine ⟨nl rfl, rfl, nl rfl, 0, 0, Nat.zero_le _, Nat.zero_le _, c_allow1 ?_⟩
  refine ⟨fun c7 => ?_, fun c7 => ?_⟩
  · have hM4 : M < 4 := by
      have : M ≠ 4 := fun z => c7 (by rw [z]; rfl)
      omega
    obtain ⟨f, hf, hf'⟩ := hR.2.2.2.2.2.2.2.1
    refine ⟨nl rfl, _, _, hR.1, rfl, ?_⟩
    refine ⟨nl rfl, _, _, hf, z_in (by omega) (by decide), ?_⟩
    rw [z_nat (by omega), hf' M hM4]
    refine ⟨nl rfl, _, _, (hR.2.2.2.1 M hM4), rfl, ?_⟩
    exact ⟨nl rfl, ⟨_, hR.2.2.2.2.1 M (by omega)⟩, rfl, nl rfl, 0, 0, Nat.zero_le _, Nat.zero_le _, c_plan hK (by omega) (Int32.not_lt.mp c6) ho⟩
  · have hM4 : M = 4 := (z_eq (b := 4) (by omega) (by decide)).mp (Classical.not_not.mp c7)
    subst hM4
    refine ⟨nl rfl, _, _, hR.1, rfl, ?_⟩
    refine ⟨nl rfl, _, _, hR.2.2.1, rfl, ?_⟩
    exact ⟨nl rfl, ⟨_, hR.2.2.2.2.1 4 (by omega)⟩, rfl, nl rfl, 0, 0, Nat.zero_le _, Nat.zero_le _, c_plan hK (by omega) (Int32.not_lt.mp c6) ho⟩
end CF
