def dpin (d : DS) (m : Nat) (p : Int32) : DS × Int32 × Int32 := if d.1 10 m = 2 then (if p = 1000 + 37 * d.1 11 m then (dset d 10 m 3, 0, 1) else ((if d.1 12 m + 1 = 3 then dset (dset d 12 m (d.1 12 m + 1)) 10 m 1 else dset d 12 m (d.1 12 m + 1)), 0, 0)) else (d, 2, 0)
theorem r_pin {d : DS} {g : Nat → Nat → Int32} {S : XH} {P : XP} {m p : Int32} (hR : RM g S) (hD : MD d g) (hX : RX S)
    (hb : ¬ (0 ≤ m ∧ m ≤ 3) → mC d 1 S (fun S' => P (.inl (some (xv_i 0))) S'))
    (ho : ∀ M, M < 4 → m = Int32.ofNat M → mC (dpin d M p).1 (dpin d M p).2.1 S (fun S' => P (.inl (some (xv_i (dpin d M p).2.2))) S')) : Y_R_pin 0 0 [xv_r 15 0, xv_i m, xv_i p] S P := by
  have fin : ∀ v : Int32, (0 < v → mC d v S (fun S' => P (.inl (some (xv_i 0))) S')) → (v ≤ 0 → v = 0 ∧ ∃ M, M < 4 ∧ m = Int32.ofNat M ∧ d.1 10 M = 2) →
      x_go b_R_pin P 29 [some (xv_r 15 0), some (xv_i m), some (xv_i p)] [xv_i v, xv_r 15 0] S 0 0 := by
    intro v hv hz
    refine x_go.run mn_R_pin 60 ?_
    refine ⟨trivial, _, hR.1, nl rfl, nl rfl, ?_⟩
    obtain ⟨g1, a1, a2, a3, a4, a5, a6, -⟩ := thr hR hD hX v
    show x_run b_R_pin P (x_go b_R_pin P) 59 32 [some (xv_r 15 0), some (xv_i m), some (xv_i p)] [] (x_up S 15 0 (.inl (10, (mfl g).set 26 (xv_i v)))) 0 0
    generalize x_up S 15 0 (.inl (10, (mfl g).set 26 (xv_i v))) = S1 at a1 a5 a6 ⊢
    refine ⟨nl rfl, _, _, a1.1, rfl, ?_⟩
    rw [a3]
    refine ⟨fun c => ?_, fun c => ?_⟩
    · obtain ⟨v0, M, hM, rfl, h10⟩ := hz c
      subst v0
      have h := ho M hM rfl
      unfold dpin at h
      rw [if_pos h10] at h
      refine ⟨nl rfl, _, _, a1.1, rfl, ?_⟩
      refine ⟨_, _, a1.2.1 11 rfl, z_in (by exact hM) (by decide), ?_⟩
      rw [z_nat (by omega), a2.1 11 rfl]
      refine ⟨fun c => ?_, fun c => ?_⟩
      · rw [if_neg (show ¬ p = 1000 + 37 * d.1 11 M from c)] at h
        refine ⟨nl rfl, _, _, a1.1, rfl, ?_⟩
        refine ⟨_, _, a1.2.1 12 rfl, z_in (by exact hM) (by decide), ?_⟩
        refine ⟨_, _, a1.2.1 12 rfl, nl rfl, z_in (by exact hM) (by decide), ?_⟩
        rw [z_nat (by omega)]
        have r1 := a1.ast (n := 12) rfl (upd (g1 12) M (g1 12 M + 1))
        have d1 := a2.set (n := 12) rfl M (g1 12 M + 1)
        refine ⟨nl rfl, _, _, r1.1, rfl, ?_⟩
        refine ⟨_, _, r1.2.1 12 rfl, z_in (by exact hM) (by decide), ?_⟩
        rw [z_nat (by omega), gs_self, upd_self, a2.1 12 rfl]
        rw [a2.1 12 rfl] at r1 d1
        refine ⟨fun c => ?_, fun c => ?_⟩
        · rw [if_neg (show ¬ d.1 12 M + 1 = 3 from c)] at h
          exact ⟨Or.inl rfl, h _ _ r1 d1 a3 (a5.up (by decide) (by decide)) (a6.eq (x_up_k (by decide)))⟩
        · rw [if_pos (show d.1 12 M + 1 = 3 from Classical.not_not.mp c)] at h
          refine ⟨nl rfl, _, _, r1.1, rfl, ?_⟩
          refine ⟨_, _, r1.2.1 10 rfl, nl rfl, z_in (by exact hM) (by decide), ?_⟩
          rw [z_nat (by omega)]
          refine ⟨Or.inl rfl, h _ _ (r1.ast (n := 10) rfl _) (d1.set (n := 10) rfl M 1) a3 ((a5.up (by decide) (by decide)).up (by decide) (by decide)) (a6.eq (by rw [x_up_k (by decide), x_up_k (by decide)]))⟩
      · rw [if_pos (show p = 1000 + 37 * d.1 11 M from Classical.not_not.mp c)] at h
        refine ⟨nl rfl, _, _, a1.1, rfl, ?_⟩
        refine ⟨_, _, a1.2.1 10 rfl, nl rfl, z_in (by exact hM) (by decide), ?_⟩
        rw [z_nat (by omega)]
        exact ⟨Or.inr rfl, h _ _ (a1.ast (n := 10) rfl _) (a2.set (n := 10) rfl M 3) a3 (a5.up (by decide) (by decide)) (a6.eq (x_up_k (by decide)))⟩
    · exact ⟨Or.inl rfl, hv (Int32.not_le.mp c) g1 S1 a1 a2 a3 a5 a6⟩
  refine x_go.run mn_R_pin 30 ?_
  refine ⟨nl rfl, rfl, nl rfl, 0, 0, Nat.zero_le _, Nat.zero_le _, r_in (fun h1 h2 => ?_) (fun h0 => ?_)⟩
  · refine ⟨fun _ => ?_, fun q => (q (by decide)).elim⟩
    obtain ⟨M, hM, rfl⟩ := in_nat 3 (by decide) h1 h2
    refine ⟨nl rfl, _, _, hR.1, rfl, ?_⟩
    refine ⟨_, _, hR.2.1 10 rfl, z_in (by show M < 4; omega) (by decide), ?_⟩
    rw [z_nat (by omega)]
    rw [hD.1 10 rfl]
    refine ⟨fun c => ?_, fun c => ?_⟩
    · exact x_go.back mn_R_pin (x_go.run mn_R_pin 1 (fin 0 (fun q => absurd q (by decide)) (fun _ => ⟨rfl, M, by omega, rfl, c⟩)))
    · have h := ho M (by omega) rfl
      unfold dpin at h
      rw [if_neg (show ¬ d.1 10 M = 2 from c)] at h
      exact x_go.back mn_R_pin (x_go.run mn_R_pin 2 (fin 2 (fun _ => h) (fun q => absurd q (by decide))))
  · exact ⟨fun q => (q rfl).elim, fun _ => x_go.back mn_R_pin (x_go.run mn_R_pin 2 (fin 1 (fun _ => hb h0) (fun q => absurd q (by decide))))⟩
theorem r_jam {d : DS} {g : Nat → Nat → Int32} {S : XH} {P : XP} {m j : Int32} (hR : RM g S) (hD : MD d g) (hX : RX S)
    (hb : ¬ (0 ≤ m ∧ m ≤ 3 ∧ 0 ≤ j ∧ j ≤ 41) → mC d 1 S (fun S' => P (.inl none) S'))
    (ho : ∀ M J, M < 4 → J ≤ 41 → m = Int32.ofNat M → j = Int32.ofNat J → mC (dset d 17 M (Int32.ofNat J)) 0 S (fun S' => P (.inl none) S')) : Y_R_jam 0 0 [xv_r 15 0, xv_i m, xv_i j] S P := by
  have fin : ∀ v : Int32, (v ≠ 0 → mC d v S (fun S' => P (.inl none) S')) → (v = 0 → ∃ M, M < 4 ∧ m = Int32.ofNat M ∧ mC (dset d 17 M j) 0 S (fun S' => P (.inl none) S')) →
      x_go b_R_jam P 25 [some (xv_r 15 0), some (xv_i m), some (xv_i j)] [xv_i v, xv_r 15 0] S 0 0 := by
    intro v hv hz
    refine x_go.run mn_R_jam 30 ?_
    refine ⟨trivial, _, hR.1, nl rfl, nl rfl, ?_⟩
    obtain ⟨g1, a1, a2, a3, a4, a5, a6, -⟩ := thr hR hD hX v
    show x_run b_R_jam P (x_go b_R_jam P) 29 28 [some (xv_r 15 0), some (xv_i m), some (xv_i j)] [] (x_up S 15 0 (.inl (10, (mfl g).set 26 (xv_i v)))) 0 0
    generalize x_up S 15 0 (.inl (10, (mfl g).set 26 (xv_i v))) = S1 at a1 a5 a6 ⊢
    refine ⟨nl rfl, _, _, a1.1, rfl, ?_⟩
    rw [a3]
    refine ⟨fun c => hv c g1 S1 a1 a2 a3 a5 a6, fun c => ?_⟩
    have c := Classical.not_not.mp c
    obtain ⟨M, hM, rfl, h⟩ := hz c
    refine ⟨nl rfl, _, _, a1.1, rfl, ?_⟩
    refine ⟨_, _, a1.2.1 17 rfl, nl rfl, z_in (by exact hM) (by decide), ?_⟩
    rw [z_nat (by omega)]
    exact h _ _ (a1.ast (n := 17) rfl _) (a2.set (n := 17) rfl M j) (a3.trans c) (a5.up (by decide) (by decide)) (a6.eq (x_up_k (by decide)))
  refine x_go.run mn_R_jam 30 ?_
  refine ⟨nl rfl, rfl, nl rfl, 0, 0, Nat.zero_le _, Nat.zero_le _, r_in (fun h1 h2 => ?_) (fun h0 => ?_)⟩
  · refine ⟨fun q => absurd q (by decide), fun _ => ?_⟩
    refine ⟨nl rfl, rfl, nl rfl, 0, 0, Nat.zero_le _, Nat.zero_le _, r_in (fun h3 h4 => ?_) (fun h0 => ?_)⟩
    · refine ⟨fun q => absurd q (by decide), fun _ => ?_⟩
      obtain ⟨M, hM, rfl⟩ := in_nat 3 (by decide) h1 h2
      obtain ⟨J, hJ, rfl⟩ := in_nat 41 (by decide) h3 h4
      exact x_go.back mn_R_jam (x_go.run mn_R_jam 2 (fin 0 (fun q => (q rfl).elim) (fun _ => ⟨M, by omega, rfl, ho M J (by omega) hJ rfl rfl⟩)))
    · exact ⟨fun _ => x_go.back mn_R_jam (x_go.run mn_R_jam 1 (fin 1 (fun _ => hb fun q => h0 ⟨q.2.2.1, q.2.2.2⟩) (fun q => absurd q (by decide)))), fun q => (q rfl).elim⟩
  · exact ⟨fun _ => x_go.back mn_R_jam (x_go.run mn_R_jam 1 (fin 1 (fun _ => hb fun q => h0 ⟨q.1, q.2.1⟩) (fun q => absurd q (by decide)))), fun q => (q rfl).elim⟩
theorem r_power {d : DS} {g : Nat → Nat → Int32} {S : XH} {P : XP} {m k b : Int32} (hR : RM g S) (hD : MD d g) (hX : RX S)
    (hb : ¬ (0 ≤ m ∧ m ≤ 4 ∧ 0 ≤ k ∧ k ≤ 50 ∧ 0 ≤ b ∧ b ≤ 17) → mC d 1 S (fun S' => P (.inl none) S'))
    (ho : ∀ M, M < 5 → m = Int32.ofNat M → 0 ≤ k → k ≤ 50 → 0 ≤ b → b ≤ 17 → mC (dset (dset d 7 M k) 8 M b) 0 S (fun S' => P (.inl none) S')) : Y_R_power 0 0 [xv_r 15 0, xv_i m, xv_i k, xv_i b] S P := by
  have fin : ∀ v : Int32, (0 < v → mC d v S (fun S' => P (.inl none) S')) → (v ≤ 0 → v = 0 ∧ ∃ M, M < 5 ∧ m = Int32.ofNat M ∧ mC (dset (dset d 7 M k) 8 M b) 0 S (fun S' => P (.inl none) S')) →
      x_go b_R_power P 35 [some (xv_r 15 0), some (xv_i m), some (xv_i k), some (xv_i b)] [xv_i v, xv_r 15 0] S 0 0 := by
    intro v hv hz
    refine x_go.run mn_R_power 30 ?_
    refine ⟨trivial, _, hR.1, nl rfl, nl rfl, ?_⟩
    obtain ⟨g1, a1, a2, a3, a4, a5, a6, -⟩ := thr hR hD hX v
    show x_run b_R_power P (x_go b_R_power P) 29 38 [some (xv_r 15 0), some (xv_i m), some (xv_i k), some (xv_i b)] [] (x_up S 15 0 (.inl (10, (mfl g).set 26 (xv_i v)))) 0 0
    generalize x_up S 15 0 (.inl (10, (mfl g).set 26 (xv_i v))) = S1 at a1 a5 a6 ⊢
    refine ⟨nl rfl, _, _, a1.1, rfl, ?_⟩
    rw [a3]
    refine ⟨fun c => ?_, fun c => hv (Int32.not_le.mp c) g1 S1 a1 a2 a3 a5 a6⟩
    obtain ⟨v0, M, hM, rfl, h⟩ := hz c
    refine ⟨nl rfl, _, _, a1.1, rfl, ?_⟩
    refine ⟨_, _, a1.2.1 7 rfl, nl rfl, z_in (by exact hM) (by decide), ?_⟩
    rw [z_nat (by omega)]
    have r1 := a1.ast (n := 7) rfl (upd (g1 7) M k)
    refine ⟨nl rfl, _, _, r1.1, rfl, ?_⟩
    refine ⟨_, _, r1.2.1 8 rfl, nl rfl, z_in (by exact hM) (by decide), ?_⟩
    rw [z_nat (by omega)]
    exact h _ _ (r1.ast (n := 8) rfl _) ((a2.set (n := 7) rfl M k).set (n := 8) rfl M b) (a3.trans v0) ((a5.up (by decide) (by decide)).up (by decide) (by decide)) (a6.eq (by rw [x_up_k (by decide), x_up_k (by decide)]))
  refine x_go.run mn_R_power 30 ?_
  refine ⟨nl rfl, rfl, nl rfl, 0, 0, Nat.zero_le _, Nat.zero_le _, r_in (fun h1 h2 => ?_) (fun h0 => ?_)⟩
  · refine ⟨fun q => absurd q (by decide), fun _ => ?_⟩
    refine ⟨nl rfl, rfl, nl rfl, 0, 0, Nat.zero_le _, Nat.zero_le _, r_in (fun h3 h4 => ?_) (fun h0 => ?_)⟩
    · refine ⟨fun q => absurd q (by decide), fun _ => ?_⟩
      refine ⟨nl rfl, rfl, nl rfl, 0, 0, Nat.zero_le _, Nat.zero_le _, r_in (fun h5 h6 => ?_) (fun h0 => ?_)⟩
      · refine ⟨fun q => absurd q (by decide), fun _ => ?_⟩
        obtain ⟨M, hM, rfl⟩ := in_nat 4 (by decide) h1 h2
        exact x_go.back mn_R_power (x_go.run mn_R_power 2 (fin 0 (fun q => absurd q (by decide)) (fun _ => ⟨rfl, M, by omega, rfl, ho M (by omega) rfl h3 h4 h5 h6⟩)))
      · exact ⟨fun _ => x_go.back mn_R_power (x_go.run mn_R_power 1 (fin 1 (fun _ => hb fun q => h0 ⟨q.2.2.2.2.1, q.2.2.2.2.2⟩) (fun q => absurd q (by decide)))), fun q => (q rfl).elim⟩
    · exact ⟨fun _ => x_go.back mn_R_power (x_go.run mn_R_power 1 (fin 1 (fun _ => hb fun q => h0 ⟨q.2.2.1, q.2.2.2.1⟩) (fun q => absurd q (by decide)))), fun q => (q rfl).elim⟩
  · exact ⟨fun _ => x_go.back mn_R_power (x_go.run mn_R_power 1 (fin 1 (fun _ => hb fun q => h0 ⟨q.1, q.2.1⟩) (fun q => absurd q (by decide)))), fun q => (q rfl).elim⟩
theorem r_balance {d : DS} {g : Nat → Nat → Int32} {S : XH} {P : XP} {a : Int32} (hR : RM g S) (hD : MD d g) (hX : RX S)
    (hb : ¬ (0 ≤ a ∧ a ≤ 199) → mC d 1 S (fun S' => P (.inl (some (xv_i 0))) S'))
    (ho : ∀ A, A < 200 → a = Int32.ofNat A → mC d 0 S (fun S' => P (.inl (some (xv_i (worthOf (d.2 4) (Int32.ofNat A))))) S')) : Y_R_balance 0 0 [xv_r 15 0, xv_i a] S P := by
  have fin : ∀ v : Int32, (0 < v → mC d v S (fun S' => P (.inl (some (xv_i 0))) S')) → (v ≤ 0 → mC d v S (fun S' => P (.inl (some (xv_i (worthOf (d.2 4) a)))) S')) →
      x_go b_R_balance P 17 [some (xv_r 15 0), some (xv_i a)] [xv_i v, xv_r 15 0] S 0 0 := by
    intro v hv hz
    refine x_go.run mn_R_balance 30 ?_
    refine ⟨trivial, _, hR.1, nl rfl, nl rfl, ?_⟩
    obtain ⟨g1, a1, a2, a3, a4, a5, a6, -⟩ := thr hR hD hX v
    show x_run b_R_balance P (x_go b_R_balance P) 29 20 [some (xv_r 15 0), some (xv_i a)] [] (x_up S 15 0 (.inl (10, (mfl g).set 26 (xv_i v)))) 0 0
    generalize x_up S 15 0 (.inl (10, (mfl g).set 26 (xv_i v))) = S1 at a1 a5 a6 ⊢
    refine ⟨nl rfl, _, _, a1.1, rfl, ?_⟩
    rw [a3]
    refine ⟨fun c => ?_, fun c => hv (Int32.not_le.mp c) g1 S1 a1 a2 a3 a5 a6⟩
    refine ⟨nl rfl, ⟨_, a1.1⟩, rfl, nl rfl, 0, 0, Nat.zero_le _, Nat.zero_le _, (r_worth a1 (a2.2.2.1 4 (by decide)) ?_)⟩
    exact hz c g1 S1 a1 a2 a3 a5 a6
  refine x_go.run mn_R_balance 30 ?_
  refine ⟨nl rfl, rfl, nl rfl, 0, 0, Nat.zero_le _, Nat.zero_le _, r_in (fun h1 h2 => ?_) (fun h0 => ?_)⟩
  · refine ⟨fun q => absurd q (by decide), fun _ => ?_⟩
    obtain ⟨A, hA, rfl⟩ := in_nat 199 (by decide) h1 h2
    exact x_go.back mn_R_balance (x_go.run mn_R_balance 2 (fin 0 (fun q => absurd q (by decide)) (fun _ => ho A (by omega) rfl)))
  · exact ⟨fun _ => x_go.back mn_R_balance (x_go.run mn_R_balance 1 (fin 1 (fun _ => hb h0) (fun q => absurd q (by decide)))), fun q => (q rfl).elim⟩
theorem r_taken {d : DS} {g : Nat → Nat → Int32} {S : XH} {P : XP} {a : Int32} (hR : RM g S) (hD : MD d g) (hX : RX S)
    (hb : ¬ (0 ≤ a ∧ a ≤ 199) → mC d 1 S (fun S' => P (.inl (some (xv_i 0))) S'))
    (ho : ∀ A, A < 200 → a = Int32.ofNat A → mC d 0 S (fun S' => P (.inl (some (xv_i (d.1 18 A)))) S')) : Y_R_taken 0 0 [xv_r 15 0, xv_i a] S P := by
  have fin : ∀ v : Int32, (0 < v → mC d v S (fun S' => P (.inl (some (xv_i 0))) S')) → (v ≤ 0 → ∃ A, A < 200 ∧ a = Int32.ofNat A ∧ mC d v S (fun S' => P (.inl (some (xv_i (d.1 18 A)))) S')) →
      x_go b_R_taken P 17 [some (xv_r 15 0), some (xv_i a)] [xv_i v, xv_r 15 0] S 0 0 := by
    intro v hv hz
    refine x_go.run mn_R_taken 30 ?_
    refine ⟨trivial, _, hR.1, nl rfl, nl rfl, ?_⟩
    obtain ⟨g1, a1, a2, a3, a4, a5, a6, -⟩ := thr hR hD hX v
    show x_run b_R_taken P (x_go b_R_taken P) 29 20 [some (xv_r 15 0), some (xv_i a)] [] (x_up S 15 0 (.inl (10, (mfl g).set 26 (xv_i v)))) 0 0
    generalize x_up S 15 0 (.inl (10, (mfl g).set 26 (xv_i v))) = S1 at a1 a5 a6 ⊢
    refine ⟨nl rfl, _, _, a1.1, rfl, ?_⟩
    rw [a3]
    refine ⟨fun c => ?_, fun c => hv (Int32.not_le.mp c) g1 S1 a1 a2 a3 a5 a6⟩
    obtain ⟨A, hA, rfl, h⟩ := hz c
    refine ⟨nl rfl, _, _, a1.1, rfl, ?_⟩
    refine ⟨_, _, a1.2.1 18 rfl, z_in (by exact hA) (by decide), ?_⟩
    rw [z_nat (by omega), a2.1 18 rfl]
    exact h g1 S1 a1 a2 a3 a5 a6
  refine x_go.run mn_R_taken 30 ?_
  refine ⟨nl rfl, rfl, nl rfl, 0, 0, Nat.zero_le _, Nat.zero_le _, r_in (fun h1 h2 => ?_) (fun h0 => ?_)⟩
  · refine ⟨fun q => absurd q (by decide), fun _ => ?_⟩
    obtain ⟨A, hA, rfl⟩ := in_nat 199 (by decide) h1 h2
    exact x_go.back mn_R_taken (x_go.run mn_R_taken 2 (fin 0 (fun q => absurd q (by decide)) (fun _ => ⟨A, by omega, rfl, ho A (by omega) rfl⟩)))
  · exact ⟨fun _ => x_go.back mn_R_taken (x_go.run mn_R_taken 1 (fin 1 (fun _ => hb h0) (fun q => absurd q (by decide)))), fun q => (q rfl).elim⟩
