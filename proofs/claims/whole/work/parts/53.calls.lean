/-! the model's calls -/
def RX (S : XH) : Prop := ∃ n, ∀ i, n ≤ i → S 19 i = none
def mC (d : DS) (th : Int32) (S : XH) (Q : XH → Prop) : Prop := ∀ g' S', RM g' S' → MD d g' → g' 26 0 = th → fm S S' → RX S' → Q S'
theorem RX.eq {S S' : XH} (h : RX S) (h' : S' 19 = S 19) : RX S' := by
  obtain ⟨n, hn⟩ := h
  exact ⟨n, fun i hi => by rw [h']; exact hn i hi⟩
theorem RX.ne {S S' : XH} {nx : Nat} (h : RX S) (h' : ∀ k, k ≠ nx → S' 19 k = S 19 k) : RX S' := by
  obtain ⟨n, hn⟩ := h
  exact ⟨n + nx + 1, fun i hi => by rw [h' i (by omega)]; exact hn i (by omega)⟩
theorem in_nat {m : Int32} (b : Nat) (hb : b < 2147483648) (h1 : 0 ≤ m) (h2 : m ≤ Int32.ofNat b) : ∃ M, M ≤ b ∧ m = Int32.ofNat M := by
  obtain ⟨n, q1, q2⟩ := z_of h1
  rw [q2] at h2
  exact ⟨n, (z_le q1 hb).mp h2, q2⟩
theorem thr {d : DS} {g : Nat → Nat → Int32} {S : XH} (hR : RM g S) (hD : MD d g) (hX : RX S) (v : Int32) : ∃ g1, RM g1 (x_up S 15 0 (.inl (10, (mfl g).set 26 (xv_i v)))) ∧ MD d g1 ∧ g1 26 0 = v ∧ (∀ k, k ≠ 26 → g1 k = g k) ∧ fm S (x_up S 15 0 (.inl (10, (mfl g).set 26 (xv_i v)))) ∧ RX (x_up S 15 0 (.inl (10, (mfl g).set 26 (xv_i v)))) ∧ x_up S 15 0 (.inl (10, (mfl g).set 26 (xv_i v))) 19 = S 19 :=
  ⟨_, hR.put (n := 26) v (Or.inr (Or.inr (Or.inl rfl))), hD.own (n := 26) (by decide) _, by rw [gs_self, upd_self], fun k hk => gs_ne hk, fm.rf.up (by decide) (by decide), hX.eq (x_up_k (by decide)), x_up_k (by decide)⟩
theorem r_thrown {g : Nat → Nat → Int32} {S : XH} {P : XP} (hR : RM g S) (h : P (.inl (some (xv_i (g 26 0)))) S) : Y_R_thrown 0 0 [xv_r 15 0] S P := by
  refine x_go.run mn_R_thrown 3 ?_
  refine ⟨nl rfl, _, _, hR.1, rfl, ?_⟩
  exact h
def dcard (d : DS) (m a : Nat) : DS × Int32 := if d.1 10 m = 1 then (dset (dset (dset d 10 m 2) 11 m (Int32.ofNat a)) 12 m 0, 0) else (d, 2)
theorem r_card {d : DS} {g : Nat → Nat → Int32} {S : XH} {P : XP} {m a : Int32} (hR : RM g S) (hD : MD d g) (hX : RX S)
    (hb : ¬ (0 ≤ m ∧ m ≤ 3 ∧ 0 ≤ a ∧ a ≤ 199) → mC d 1 S (fun S' => P (.inl none) S'))
    (ho : ∀ M A, M < 4 → A < 200 → m = Int32.ofNat M → a = Int32.ofNat A → mC (dcard d M A).1 (dcard d M A).2 S (fun S' => P (.inl none) S')) : Y_R_card 0 0 [xv_r 15 0, xv_i m, xv_i a] S P := by
  have fin : ∀ v : Int32, (0 < v → mC d v S (fun S' => P (.inl none) S')) → (v ≤ 0 → v = 0 ∧ ∃ M A, M < 4 ∧ A < 200 ∧ m = Int32.ofNat M ∧ a = Int32.ofNat A ∧ mC (dset (dset (dset d 10 M 2) 11 M (Int32.ofNat A)) 12 M 0) 0 S (fun S' => P (.inl none) S')) →
      x_go b_R_card P 40 [some (xv_r 15 0), some (xv_i m), some (xv_i a)] [xv_i v, xv_r 15 0] S 0 0 := by
    intro v hv hz
    refine x_go.run mn_R_card 30 ?_
    refine ⟨trivial, _, hR.1, nl rfl, nl rfl, ?_⟩
    obtain ⟨g1, a1, a2, a3, a4, a5, a6, -⟩ := thr hR hD hX v
    show x_run b_R_card P (x_go b_R_card P) 29 43 [some (xv_r 15 0), some (xv_i m), some (xv_i a)] [] (x_up S 15 0 (.inl (10, (mfl g).set 26 (xv_i v)))) 0 0
    generalize x_up S 15 0 (.inl (10, (mfl g).set 26 (xv_i v))) = S1 at a1 a5 a6 ⊢
    refine ⟨nl rfl, _, _, a1.1, rfl, ?_⟩
    rw [a3]
    refine ⟨fun c => ?_, fun c => ?_⟩
    · obtain ⟨v0, M, A, hM, hA, rfl, rfl, h⟩ := hz c
      subst v0
      refine ⟨nl rfl, _, _, a1.1, rfl, ?_⟩
      refine ⟨_, _, a1.2.1 10 rfl, nl rfl, z_in (by exact hM) (by decide), ?_⟩
      rw [z_nat (by omega)]
      have r1 := a1.ast (n := 10) rfl (upd (g1 10) M 2)
      refine ⟨nl rfl, _, _, r1.1, rfl, ?_⟩
      refine ⟨_, _, r1.2.1 11 rfl, nl rfl, z_in (by exact hM) (by decide), ?_⟩
      rw [z_nat (by omega)]
      have r2 := r1.ast (n := 11) rfl (upd (g1 11) M (Int32.ofNat A))
      refine ⟨nl rfl, _, _, r2.1, rfl, ?_⟩
      refine ⟨_, _, r2.2.1 12 rfl, nl rfl, z_in (by exact hM) (by decide), ?_⟩
      rw [z_nat (by omega)]
      have r3 := r2.ast (n := 12) rfl (upd (g1 12) M 0)
      exact h _ _ r3 (((a2.set rfl M 2).set rfl M _).set rfl M 0) a3 (((a5.up (by decide) (by decide)).up (by decide) (by decide)).up (by decide) (by decide)) (a6.eq (by rw [x_up_k (by decide), x_up_k (by decide), x_up_k (by decide)]))
    · exact hv (Int32.not_le.mp c) g1 S1 a1 a2 a3 a5 a6
  have bad : ¬ (0 ≤ m ∧ m ≤ 3 ∧ 0 ≤ a ∧ a ≤ 199) → x_go b_R_card P 40 [some (xv_r 15 0), some (xv_i m), some (xv_i a)] [xv_i 1, xv_r 15 0] S 0 0 := fun h => fin 1 (fun _ => hb h) (fun q => absurd q (by decide))
  refine x_go.run mn_R_card 30 ?_
  refine ⟨nl rfl, rfl, nl rfl, 0, 0, Nat.zero_le _, Nat.zero_le _, r_in (fun h1 h2 => ?_) (fun h0 => ?_)⟩
  · refine ⟨fun q => absurd q (by decide), fun _ => ?_⟩
    refine ⟨nl rfl, rfl, nl rfl, 0, 0, Nat.zero_le _, Nat.zero_le _, r_in (fun h3 h4 => ?_) (fun h0 => ?_)⟩
    · refine ⟨fun _ => ?_, fun q => (q (by decide)).elim⟩
      obtain ⟨M, hM, rfl⟩ := in_nat 3 (by decide) h1 h2
      obtain ⟨A, hA, rfl⟩ := in_nat 199 (by decide) h3 h4
      have h := ho M A (by omega) (by omega) rfl rfl
      unfold dcard at h
      refine ⟨nl rfl, _, _, hR.1, rfl, ?_⟩
      refine ⟨_, _, hR.2.1 10 rfl, z_in (by show M < 4; omega) (by decide), ?_⟩
      rw [z_nat (by omega)]
      rw [hD.1 10 rfl]
      refine ⟨fun c => ?_, fun c => ?_⟩
      · rw [if_pos (show d.1 10 M = 1 from c)] at h
        exact x_go.back mn_R_card (x_go.run mn_R_card 1 (fin 0 (fun q => absurd q (by decide)) (fun _ => ⟨rfl, M, A, by omega, by omega, rfl, rfl, h⟩)))
      · rw [if_neg (show ¬ d.1 10 M = 1 from c)] at h
        exact x_go.back mn_R_card (x_go.run mn_R_card 2 (fin 2 (fun _ => h) (fun q => absurd q (by decide))))
    · exact ⟨fun q => (q rfl).elim, fun _ => x_go.back mn_R_card (x_go.run mn_R_card 2 (bad fun q => h0 ⟨q.2.2.1, q.2.2.2⟩))⟩
  · exact ⟨fun _ => x_go.back mn_R_card (x_go.run mn_R_card 2 (bad fun q => h0 ⟨q.1, q.2.1⟩)), fun q => (q rfl).elim⟩
