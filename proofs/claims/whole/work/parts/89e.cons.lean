section DD
variable {S : XH} {P : XP}
theorem c_ainit {j : Nat} (h : S 6 j = some (.inl (8, xD8))) (hP : ∀ S', S' 6 j = some (.inl (8, [xv_r 54 0, xv_i 0, xv_i 0])) → (∀ k i, ¬ (k = 6 ∧ i = j) → S' k i = S k i) → P (.inl none) S') : Y_A_init 0 0 [xv_r 6 j] S P := by
  refine x_go.run mn_A_init 8 ?_
  refine ⟨rfl, nl rfl, 0, 0, Nat.zero_le _, Nat.zero_le _, ?_⟩
  refine x_go.run mn_ZAbstractList_init 8 ?_
  refine ⟨rfl, nl rfl, 0, 0, Nat.zero_le _, Nat.zero_le _, ?_⟩
  refine x_go.run mn_ZAbstractCollection_init 4 ?_
  refine ⟨nl rfl, ?_⟩
  refine ⟨trivial, _, h, nl rfl, nl rfl, ?_⟩
  refine ⟨trivial, _, x_up_self _ _ _ _, nl rfl, nl rfl, ?_⟩
  refine hP _ (x_up_self _ _ _ _) fun k i hk => ?_
  rw [x_up_ne hk, x_up_ne hk]
theorem c_ninit (h : S 1 0 = some (.inl (1, xD1))) (h6 : S 6 5 = none) (hP : ∀ S', S' 1 0 = some (.inl (1, [xv_r 6 5])) → S' 6 5 = some (.inl (8, [xv_r 54 0, xv_i 0, xv_i 0])) → (∀ k i, ¬ (k = 1 ∧ i = 0) → ¬ (k = 6 ∧ i = 5) → S' k i = S k i) → P (.inl none) S') : Y_N_init 1 3 [xv_r 1 0] S P := by
  refine x_go.run mn_N_init 12 ?_
  refine ⟨nl rfl, ?_⟩
  refine ⟨nl rfl, nl rfl, 6, 5, nl rfl, h6, ?_⟩
  refine ⟨rfl, nl rfl, 0, 0, Nat.zero_le _, Nat.zero_le _, c_ainit (j := 5) (x_up_self _ _ _ _) fun S1 a1 a2 => ?_⟩
  refine ⟨trivial, _, by rw [a2 1 0 (by decide), x_up_ne (by decide)]; exact h, nl rfl, nl rfl, ?_⟩
  refine hP _ (x_up_self _ _ _ _) (by rw [x_up_ne (by simp)]; exact a1) fun k i h1 h2 => ?_
  rw [x_up_ne h1, a2 k i h2, x_up_ne h2]
theorem c_jinit {w : Nat} {lim : Int32} (h : S 4 w = some (.inl (4, xD4))) (h6 : S 6 w = none) (hP : ∀ S', S' 4 w = some (.inl (4, [xv_r 6 w, xv_i lim, xv_i 1, xv_i 0, xv_i 17])) → S' 6 w = some (.inl (8, [xv_r 54 0, xv_i 0, xv_i 0])) → (∀ k i, ¬ (k = 4 ∧ i = w) → ¬ (k = 6 ∧ i = w) → S' k i = S k i) → P (.inl none) S') : Y_J_init 1 3 [xv_r 4 w, xv_i lim] S P := by
  refine x_go.run mn_J_init 22 ?_
  refine ⟨nl rfl, ?_⟩
  refine ⟨nl rfl, nl rfl, 6, w, nl rfl, h6, ?_⟩
  refine ⟨rfl, nl rfl, 0, 0, Nat.zero_le _, Nat.zero_le _, c_ainit (j := w) (x_up_self _ _ _ _) fun S1 a1 a2 => ?_⟩
  refine ⟨trivial, _, by rw [a2 4 w (by omega), x_up_ne (by omega)]; exact h, nl rfl, nl rfl, ?_⟩
  refine ⟨Or.inr rfl, _, x_up_self _ _ _ _, nl rfl, nl rfl, ?_⟩
  refine ⟨trivial, _, x_up_self _ _ _ _, nl rfl, nl rfl, ?_⟩
  refine ⟨trivial, _, x_up_self _ _ _ _, nl rfl, nl rfl, ?_⟩
  refine hP _ (x_up_self _ _ _ _) ?_ fun k i h1 h2 => ?_
  · rw [x_up_ne (by simp), x_up_ne (by simp), x_up_ne (by simp), x_up_ne (by simp)]
    exact a1
  · rw [x_up_ne h1, x_up_ne h1, x_up_ne h1, x_up_ne h1, a2 k i h2, x_up_ne h2]
theorem c_dinit {m : Nat} (h : S 5 m = some (.inl (5, xD5))) (h8 : S 8 (2 + m) = none) (hP : ∀ S' f, S' 5 m = some (.inl (5, [xv_r 8 (2 + m), xv_i 41, xv_i 0, xv_i 0, xv_i 0])) → S' 8 (2 + m) = some (.inr (0, 4, .inl f)) → (∀ c, c < 4 → f c = 30) → (∀ k i, ¬ (k = 5 ∧ i = m) → ¬ (k = 8 ∧ i = 2 + m) → S' k i = S k i) → P (.inl none) S') : Y_D_init 1 4 [xv_r 5 m] S P := by
  refine x_go.run mn_D_init 40 ?_
  refine ⟨nl rfl, ?_⟩
  refine ⟨by decide, by decide, nl rfl, nl rfl, 8, 2 + m, nl rfl, h8, ?_⟩
  refine ⟨_, _, x_up_self _ _ _ _, nl rfl, z_in (k := 0) (by decide) (by decide), ?_⟩
  refine ⟨_, _, x_up_self _ _ _ _, nl rfl, z_in (k := 1) (by decide) (by decide), ?_⟩
  refine ⟨_, _, x_up_self _ _ _ _, nl rfl, z_in (k := 2) (by decide) (by decide), ?_⟩
  refine ⟨_, _, x_up_self _ _ _ _, nl rfl, z_in (k := 3) (by decide) (by decide), ?_⟩
  rw [x_up_up, x_up_up, x_up_up, x_up_up]
  refine ⟨trivial, _, by rw [x_up_ne (by simp)]; exact h, nl rfl, nl rfl, ?_⟩
  refine ⟨trivial, _, x_up_self _ _ _ _, nl rfl, nl rfl, ?_⟩
  refine hP _ (upd (upd (upd (upd (fun _ => 0) 0 30) 1 30) 2 30) 3 30) (x_up_self _ _ _ _) (by rw [x_up_ne (by simp), x_up_ne (by simp), x_up_self]; rfl) ?_ fun k i h1 h2 => ?_
  · intro c hc
    rcases (show c = 0 ∨ c = 1 ∨ c = 2 ∨ c = 3 by omega) with rfl | rfl | rfl | rfl <;> rfl
  · rw [x_up_ne h1, x_up_ne h1, x_up_ne h2]
theorem c_binit (h : S 2 0 = some (.inl (2, xD2))) (h4 : S 4 4 = none) (h6 : S 6 4 = none) (h8 : S 8 1 = none) (hP : ∀ S', S' 2 0 = some (.inl (2, [xv_r 1 0, xv_r 4 4, xv_r 8 1, xv_i 0, xv_i 0])) → S' 4 4 = some (.inl (4, [xv_r 6 4, xv_i 4000, xv_i 1, xv_i 0, xv_i 17])) → S' 6 4 = some (.inl (8, [xv_r 54 0, xv_i 0, xv_i 0])) → S' 8 1 = some (.inr (0, 200, .inl (fill 200 500))) → (∀ k i, ¬ (k = 2 ∧ i = 0) → ¬ (k = 4 ∧ i = 4) → ¬ (k = 6 ∧ i = 4) → ¬ (k = 8 ∧ i = 1) → S' k i = S k i) → P (.inl none) S') : Y_B_init 3 208 [xv_r 2 0, xv_r 1 0] S P := by
  have loop : ∀ r a (S1 : XH), 200 - a = r → a ≤ 200 → S1 2 0 = some (.inl (2, [xv_r 1 0, xv_r 4 4, xv_r 8 1, xv_i 0, xv_i 0])) → S1 4 4 = some (.inl (4, [xv_r 6 4, xv_i 4000, xv_i 1, xv_i 0, xv_i 17])) → S1 6 4 = some (.inl (8, [xv_r 54 0, xv_i 0, xv_i 0])) → S1 8 1 = some (.inr (0, 200, .inl (fill a 500))) → (∀ k i, ¬ (k = 2 ∧ i = 0) → ¬ (k = 4 ∧ i = 4) → ¬ (k = 6 ∧ i = 4) → ¬ (k = 8 ∧ i = 1) → S1 k i = S k i) →
      x_go b_B_init P 34 [some (xv_r 2 0), some (xv_r 1 0), some (xv_i (Int32.ofNat a))] [] S1 0 0 := by
    intro r
    induction r with
    | zero =>
      intro a S1 hr ha g1 g2 g3 g4 g5
      have e : a = 200 := by omega
      subst e
      refine x_go.run mn_B_init 6 ?_
      exact ⟨fun _ => hP S1 g1 g2 g3 g4 g5, fun c => (c (by decide)).elim⟩
    | succ r ih =>
      intro a S1 hr ha g1 g2 g3 g4 g5
      refine x_go.run mn_B_init 12 ?_
      refine ⟨fun c => ?_, fun _ => ?_⟩
      · have := (z_le (a := 200) (by decide) (by omega)).mp c
        omega
      refine ⟨nl rfl, _, _, g1, rfl, ?_⟩
      refine ⟨_, _, g4, nl rfl, z_in (by omega) (by decide), ?_⟩
      rw [z_nat (by omega), show upd (fill a 500) a 500 = fill (a + 1) 500 from fill_suc a 500]
      have kk := ih (a + 1) _ (by omega) (by omega) (by rw [x_up_ne (by simp)]; exact g1) (by rw [x_up_ne (by simp)]; exact g2) (by rw [x_up_ne (by simp)]; exact g3) (x_up_self _ _ _ _) (fun k i a b c d => by rw [x_up_ne d]; exact g5 k i a b c d)
      rw [← z_suc] at kk
      exact x_go.back mn_B_init (x_go.run mn_B_init 2 kk)
  refine x_go.run mn_B_init 16 ?_
  refine ⟨nl rfl, ?_⟩
  refine ⟨nl rfl, nl rfl, 4, 4, nl rfl, h4, ?_⟩
  refine ⟨rfl, nl rfl, 1, 3, nl rfl, nl rfl, c_jinit (w := 4) (x_up_self _ _ _ _) (by rw [x_up_ne (by decide)]; exact h6) fun S1 a1 a2 a3 => ?_⟩
  have b2 : S1 2 0 = some (.inl (2, xD2)) := by
    rw [a3 2 0 (by decide) (by decide), x_up_ne (by decide)]
    exact h
  refine ⟨trivial, _, b2, nl rfl, nl rfl, ?_⟩
  refine ⟨by decide, by decide, nl rfl, nl rfl, 8, 1, nl rfl, by rw [x_up_ne (by decide), a3 8 1 (by decide) (by decide), x_up_ne (by decide)]; exact h8, ?_⟩
  refine ⟨trivial, _, by rw [x_up_ne (by decide), x_up_self], nl rfl, nl rfl, ?_⟩
  refine ⟨trivial, _, x_up_self _ _ _ _, nl rfl, nl rfl, ?_⟩
  refine x_go.back mn_B_init (x_go.run mn_B_init 2 (loop 200 0 _ rfl (by decide) (x_up_self _ _ _ _) ?_ ?_ ?_ ?_))
  · rw [x_up_ne (by simp), x_up_ne (by simp), x_up_ne (by simp), x_up_ne (by simp)]
    exact a1
  · rw [x_up_ne (by simp), x_up_ne (by simp), x_up_ne (by simp), x_up_ne (by simp)]
    exact a2
  · rw [x_up_ne (by simp), x_up_ne (by simp), x_up_self, fill_0]
    rfl
  · intro k i c1 c2 c3 c4
    rw [x_up_ne c1, x_up_ne c1, x_up_ne c4, x_up_ne c1, a3 k i c2 c3, x_up_ne c2]
theorem c_minit {m : Nat} (hm : m < 4) (h : S 3 m = some (.inl (3, xD3))) (h4 : S 4 m = none) (h5 : S 5 m = none) (h6 : S 6 m = none) (h66 : S 6 (6 + m) = none) (h8 : S 8 (2 + m) = none) (hP : ∀ S' f, S' 3 m = some (.inl (3, [xv_i (Int32.ofNat m), xv_r 1 0, xv_r 8 0, xv_r 4 m, xv_r 5 m, xv_r 49 0, xv_i 0, xv_i 0, xv_i 0, xv_i 0, xv_r 6 (6 + m)])) → S' 4 m = some (.inl (4, [xv_r 6 m, xv_i 1200, xv_i 1, xv_i 0, xv_i 17])) → S' 6 m = some (.inl (8, [xv_r 54 0, xv_i 0, xv_i 0])) → S' 6 (6 + m) = some (.inl (8, [xv_r 54 0, xv_i 0, xv_i 0])) → S' 5 m = some (.inl (5, [xv_r 8 (2 + m), xv_i 41, xv_i 0, xv_i 0, xv_i 0])) → S' 8 (2 + m) = some (.inr (0, 4, .inl f)) → (∀ c, c < 4 → f c = 30) → (∀ k i, ¬ (k = 3 ∧ i = m) → ¬ (k = 4 ∧ i = m) → ¬ (k = 5 ∧ i = m) → ¬ (k = 6 ∧ (i = m ∨ i = 6 + m)) → ¬ (k = 8 ∧ i = 2 + m) → S' k i = S k i) → P (.inl none) S') : Y_M_init 5 20 [xv_r 3 m, xv_i (Int32.ofNat m), xv_r 1 0, xv_r 8 0] S P := by
  refine x_go.run mn_M_init 40 ?_
  refine ⟨nl rfl, ?_⟩
  refine ⟨nl rfl, nl rfl, 4, m, nl rfl, h4, ?_⟩
  refine ⟨rfl, nl rfl, 1, 3, nl rfl, nl rfl, c_jinit (w := m) (x_up_self _ _ _ _) (by rw [x_up_ne (by omega)]; exact h6) fun S1 a1 a2 a3 => ?_⟩
  refine ⟨trivial, _, by rw [a3 3 m (by omega) (by omega), x_up_ne (by omega)]; exact h, nl rfl, nl rfl, ?_⟩
  refine ⟨nl rfl, nl rfl, 5, m, nl rfl, by rw [x_up_ne (by simp), a3 5 m (by omega) (by omega), x_up_ne (by omega)]; exact h5, ?_⟩
  refine ⟨rfl, nl rfl, 1, 4, nl rfl, nl rfl, c_dinit (m := m) (x_up_self _ _ _ _) (by rw [x_up_ne (by simp), x_up_ne (by simp), a3 8 (2 + m) (by omega) (by omega), x_up_ne (by omega)]; exact h8) fun S2 f b1 b2 b3 b4 => ?_⟩
  refine ⟨trivial, _, by rw [b4 3 m (by omega) (by omega), x_up_ne (by simp), x_up_self], nl rfl, nl rfl, ?_⟩
  refine ⟨trivial, _, x_up_self _ _ _ _, nl rfl, nl rfl, ?_⟩
  have f66 : S2 6 (6 + m) = none := by
    rw [b4 6 (6 + m) (by omega) (by omega), x_up_ne (by simp), x_up_ne (by simp), a3 6 (6 + m) (by omega) (by omega), x_up_ne (by omega)]
    exact h66
  refine ⟨nl rfl, nl rfl, 6, 6 + m, nl rfl, by rw [x_up_ne (by simp), x_up_ne (by simp)]; exact f66, ?_⟩
  refine ⟨rfl, nl rfl, 0, 0, Nat.zero_le _, Nat.zero_le _, c_ainit (j := 6 + m) (x_up_self _ _ _ _) fun S3 d1 d2 => ?_⟩
  refine ⟨trivial, _, by rw [d2 3 m (by omega), x_up_ne (by simp), x_up_self], nl rfl, nl rfl, ?_⟩
  refine ⟨trivial, _, x_up_self _ _ _ _, nl rfl, nl rfl, ?_⟩
  refine ⟨trivial, _, x_up_self _ _ _ _, nl rfl, nl rfl, ?_⟩
  refine ⟨trivial, _, x_up_self _ _ _ _, nl rfl, nl rfl, ?_⟩
  have up4 : ∀ k i, ¬ (k = 3 ∧ i = m) → ∀ c1 c2 c3 c4 : XC, x_up (x_up (x_up (x_up S3 3 m c1) 3 m c2) 3 m c3) 3 m c4 k i = S3 k i := fun k i hk c1 c2 c3 c4 => by
    rw [x_up_ne hk, x_up_ne hk, x_up_ne hk, x_up_ne hk]
  refine hP _ f (x_up_self _ _ _ _) ((up4 _ _ (by omega) _ _ _ _).trans ?_) ((up4 _ _ (by omega) _ _ _ _).trans ?_) ((up4 _ _ (by omega) _ _ _ _).trans d1) ((up4 _ _ (by omega) _ _ _ _).trans ?_) ((up4 _ _ (by omega) _ _ _ _).trans ?_) b3 fun k i q1 q2 q3 q4 q5 => (up4 k i q1 _ _ _ _).trans ?_
  · rw [d2 4 m (by omega), x_up_ne (by simp), x_up_ne (by simp), x_up_ne (by simp), b4 4 m (by omega) (by omega), x_up_ne (by simp), x_up_ne (by simp)]
    exact a1
  · rw [d2 6 m (by omega), x_up_ne (by simp), x_up_ne (by simp), x_up_ne (by simp), b4 6 m (by omega) (by omega), x_up_ne (by simp), x_up_ne (by simp)]
    exact a2
  · rw [d2 5 m (by omega), x_up_ne (by simp), x_up_ne (by simp), x_up_ne (by simp)]
    exact b1
  · rw [d2 8 (2 + m) (by omega), x_up_ne (by simp), x_up_ne (by simp), x_up_ne (by simp)]
    exact b2
  · rw [d2 k i (by omega), x_up_ne (by omega), x_up_ne q1, x_up_ne q1, b4 k i q3 q5, x_up_ne q3, x_up_ne q1, a3 k i q2 (by omega), x_up_ne q2]
theorem LO.new {j : Nat} (h : S 6 j = some (.inl (8, [xv_r 54 0, xv_i 0, xv_i 0]))) {f : Nat → Option (Nat × Nat)} (h54 : S 54 0 = some (.inr (3, 0, .inr (.inr f)))) : LO S j 0 [] := ⟨54, 0, f, 0, h, h54, Nat.le_refl _, by decide, Or.inl ⟨rfl, rfl, rfl⟩, fun i hi => by cases hi⟩
/-- the class's objects at the start, machines below n -/
def Cn (n : Nat) (S0 S : XH) : Prop :=
  (∃ f, S 9 0 = some (.inr (4, 4, .inr (.inr f))) ∧ ∀ m, m < n → f m = some (3, m)) ∧ S 0 0 = some (.inl (0, oC)) ∧ S 1 0 = some (.inl (1, [xv_r 6 5])) ∧ S 6 5 = some (.inl (8, [xv_r 54 0, xv_i 0, xv_i 0])) ∧ S 8 0 = some (.inr (0, 200, .inl (fun _ => 0))) ∧
  S 2 0 = some (.inl (2, [xv_r 1 0, xv_r 4 4, xv_r 8 1, xv_i 0, xv_i 0])) ∧ S 4 4 = some (.inl (4, [xv_r 6 4, xv_i 4000, xv_i 1, xv_i 0, xv_i 17])) ∧ S 6 4 = some (.inl (8, [xv_r 54 0, xv_i 0, xv_i 0])) ∧ S 8 1 = some (.inr (0, 200, .inl (fill 200 500))) ∧
  (∀ m, m < n → S 3 m = some (.inl (3, [xv_i (Int32.ofNat m), xv_r 1 0, xv_r 8 0, xv_r 4 m, xv_r 5 m, xv_r 49 0, xv_i 0, xv_i 0, xv_i 0, xv_i 0, xv_r 6 (6 + m)])) ∧ S 4 m = some (.inl (4, [xv_r 6 m, xv_i 1200, xv_i 1, xv_i 0, xv_i 17])) ∧ S 6 m = some (.inl (8, [xv_r 54 0, xv_i 0, xv_i 0])) ∧ S 6 (6 + m) = some (.inl (8, [xv_r 54 0, xv_i 0, xv_i 0])) ∧ S 5 m = some (.inl (5, [xv_r 8 (2 + m), xv_i 41, xv_i 0, xv_i 0, xv_i 0])) ∧ ∃ f, S 8 (2 + m) = some (.inr (0, 4, .inl f)) ∧ ∀ c, c < 4 → f c = 30) ∧
  (∀ m, n ≤ m → m < 4 → S 3 m = none ∧ S 4 m = none ∧ S 5 m = none ∧ S 6 m = none ∧ S 6 (6 + m) = none ∧ S 8 (2 + m) = none) ∧
  (∀ k i, 10 ≤ k → S k i = S0 k i)
theorem Cn.ks {S0 : XH} (h : Cn 4 S0 S) {f54 : Nat → Option (Nat × Nat)} (h54 : S 54 0 = some (.inr (3, 0, .inr (.inr f54)))) (hn : ∀ k i, (10 ≤ k ∧ k < 15) ∨ (20 ≤ k ∧ k < 30) → S0 k i = none) : KS d0 S := by
  obtain ⟨⟨f9, c9, c9'⟩, c0, c1, c65, c80, c2, c44, c64, c81, cm, -, ck⟩ := h
  have cf : ∃ F : Nat → Nat → Int32, ∀ m, m < 4 → S 8 (2 + m) = some (.inr (0, 4, .inl (F m))) ∧ ∀ c, c < 4 → F m c = 30 := by
    obtain ⟨f0, a0, b0⟩ := (cm 0 (by decide)).2.2.2.2.2
    obtain ⟨f1, a1, b1⟩ := (cm 1 (by decide)).2.2.2.2.2
    obtain ⟨f2, a2, b2⟩ := (cm 2 (by decide)).2.2.2.2.2
    obtain ⟨f3, a3, b3⟩ := (cm 3 (by decide)).2.2.2.2.2
    refine ⟨fun m => if m = 0 then f0 else if m = 1 then f1 else if m = 2 then f2 else f3, fun m hm => ?_⟩
    rcases (show m = 0 ∨ m = 1 ∨ m = 2 ∨ m = 3 by omega) with rfl | rfl | rfl | rfl
    · exact ⟨a0, b0⟩
    · exact ⟨a1, b1⟩
    · exact ⟨a2, b2⟩
    · exact ⟨a3, b3⟩
  obtain ⟨F, hF⟩ := cf
  obtain ⟨q, hq⟩ : ∃ q : Nat → Nat → Int32, q = fun t a => if t = 5 then 1 else if t = 7 then 17 else if t = 8 then 41 else if t = 13 then fill 200 500 a else if 20 ≤ t then F (t - 20) a else 0 := ⟨_, rfl⟩
  have q0 : ∀ t, t < 5 ∨ t = 6 ∨ (9 ≤ t ∧ t < 13) → ∀ a, q t a = 0 := fun t ht a => by
    rw [hq]
    show (if t = 5 then _ else _) = _
    rw [if_neg (by omega), if_neg (by omega), if_neg (by omega), if_neg (by omega), if_neg (by omega)]
  have q5 : ∀ a, q 5 a = 1 := fun a => by rw [hq]; rfl
  have q7 : ∀ a, q 7 a = 17 := fun a => by rw [hq]; rfl
  have q8 : ∀ a, q 8 a = 41 := fun a => by rw [hq]; rfl
  have q13 : q 13 = fill 200 500 := by rw [hq]; rfl
  have q20 : ∀ m, q (20 + m) = F m := fun m => by
    rw [hq]
    funext a
    show (if 20 + m = 5 then _ else _) = _
    rw [if_neg (by omega), if_neg (by omega), if_neg (by omega), if_neg (by omega), if_pos (by omega), show 20 + m - 20 = m by omega]
  have lo : ∀ j, j < 10 → LO S j 0 [] := by
    intro j hj
    refine LO.new ?_ h54
    rcases (show j < 4 ∨ j = 4 ∨ j = 5 ∨ (6 ≤ j ∧ j < 10) by omega) with y | rfl | rfl | y
    · exact (cm j y).2.2.1
    · exact c64
    · exact c65
    · have := (cm (j - 6) (by omega)).2.2.2.1
      rw [show 6 + (j - 6) = j by omega] at this
      exact this
  have d10 : ∀ m, m < 4 → d0.1 10 m = 1 := fun m hm => if_pos hm
  refine ⟨q, fun _ => 0, fun _ => 0, fun _ => [], ⟨c0, c1, ?_, fun m hm => ?_, fun w hw => ?_, fun m hm => ?_, fun n hn => ?_, ⟨f9, c9, c9'⟩, lo⟩, ⟨⟨fun j _ => rfl, fun m hm => ⟨?_, ?_, ?_, ?_, ?_, ?_, ?_, fun c hc => ?_⟩, ?_, fun w hw => ⟨?_, ?_, fun z => ?_⟩, fun a ha => ?_⟩, fun m hm => ⟨(by show 0 < 4; decide), fun _ => ⟨?_, ?_, rfl, fun z => ?_⟩⟩, ⟨0, Nat.le_refl _, ?_, fun a ha => ?_⟩, ?_⟩, ⟨fun _ _ => Nat.zero_le _, fun _ _ _ => Nat.zero_le _, rfl⟩, ⟨0, fun i _ => ?_⟩⟩
  · rw [c2]
    unfold oB
    rw [q0 0 (by omega), q0 0 (by omega)]
  · rw [(cm m hm).1]
    unfold oM
    rw [q0 1 (by omega), q0 2 (by omega), q0 3 (by omega), q0 4 (by omega)]
  · unfold oJ
    rw [q5, q0 6 (by omega), q7]
    rcases (show w < 4 ∨ w = 4 by omega) with y | rfl
    · rw [(cm w y).2.1]
      unfold jlim
      rw [if_neg (by omega)]
    · exact c44
  · rw [(cm m hm).2.2.2.2.1]
    unfold oD
    rw [q8, q0 9 (by omega), q0 10 (by omega), q0 11 (by omega)]
  · rcases (show n = 0 ∨ n = 1 ∨ (2 ≤ n ∧ n < 6) by omega) with rfl | rfl | y
    · rw [c80, show q (aq 0) = fun _ => 0 from funext (q0 12 (by omega))]
      rfl
    · rw [c81, show q (aq 1) = fill 200 500 from q13]
      rfl
    · have := (hF (n - 2) (by omega)).1
      rw [show 2 + (n - 2) = n by omega] at this
      rw [this, show aq n = 20 + (n - 2) by unfold aq; rw [if_neg (by omega), if_neg (by omega)]; omega, q20, show an n = 4 from if_neg (by omega)]
  · rw [q0 1 (by omega)]
    rfl
  · rw [q0 2 (by omega)]
    rfl
  · rw [q5, d10 m hm]
    rfl
  · rw [q8]
    exact (if_pos hm).symm
  · rw [q0 9 (by omega)]
    rfl
  · rw [q0 10 (by omega)]
    rfl
  · rw [q0 11 (by omega)]
    rfl
  · rw [q20, (hF m hm).2 c hc]
    exact (if_pos (by omega)).symm
  · rw [q5]
    rfl
  · rw [q7]
    exact (if_pos hw).symm
  · rw [show d0.1 8 w = 17 from if_pos hw]
    decide
  · exact (z (q7 w)).elim
  · rw [q0 12 (by omega)]
    rfl
  · rw [d10 m hm]
    rfl
  · rw [q0 3 (by omega)]
    rfl
  · rw [d10 m hm] at z
    cases z
  · rw [q0 0 (by omega)]
    rfl
  · rw [q13]
    exact if_pos ha
  · unfold CT
    rw [show q 0 1 = 0 from q0 0 (by omega) 1]
    rfl
  · refine ⟨?_, ?_, ?_, ?_, ?_, fun j hj => ?_⟩
    · rw [ck 10 i (by decide)]
      exact hn 10 i (by omega)
    · rw [ck 11 i (by decide)]
      exact hn 11 i (by omega)
    · rw [ck 12 i (by decide)]
      exact hn 12 i (by omega)
    · rw [ck 13 i (by decide)]
      exact hn 13 i (by omega)
    · rw [ck 14 i (by decide)]
      exact hn 14 i (by omega)
    · rw [ck (20 + j) i (by omega)]
      exact hn (20 + j) i (by omega)
set_option maxHeartbeats 4000000 in
theorem c_cinit {f54 : Nat → Option (Nat × Nat)} (h0 : S 0 0 = some (.inl (0, xD0))) (hn : ∀ k i, ((k < 15 ∧ 1 ≤ k) ∨ (20 ≤ k ∧ k < 30)) → S k i = none) (h54 : S 54 0 = some (.inr (3, 0, .inr (.inr f54))))
    (hP : ∀ S', KS d0 S' → fc S S' → P (.inl none) S') : Y_C_init 40 560 [xv_r 0 0] S P := by
  have loop : ∀ r n (S1 : XH) (u w : Nat), 4 - n = r → n ≤ 4 → Cn n S S1 → (∀ k i, ¬ k < 10 → S1 k i = S k i) → 6 * (4 - n) ≤ u → 31 * (4 - n) ≤ w → x_go b_C_init P 50 [some (xv_r 0 0), some (xv_r 1 0), some (xv_r 8 0), some (xv_i (Int32.ofNat n))] [] S1 u w := by
    intro r
    induction r with
    | zero =>
      intro n S1 u w hr hn4 hc hk hu hw
      have e : n = 4 := by omega
      subst e
      refine x_go.run mn_C_init 6 ?_
      refine ⟨fun _ => hP S1 (hc.ks (by rw [hk 54 0 (by decide)]; exact h54) fun k i hki => hn k i (by omega)) fun k hk' => funext fun i => hk k i (by omega), fun c => (c (by decide)).elim⟩
    | succ r ih =>
      intro n S1 u w hr hn4 hc hk hu hw
      obtain ⟨⟨f9, c9, c9'⟩, c0, c1, c65, c80, c2, c44, c64, c81, cm, cf, ck⟩ := id hc
      obtain ⟨e3, e4, e5, e6, e66, e8⟩ := cf n (Nat.le_refl _) (by omega)
      refine x_go.run mn_C_init 20 ?_
      refine ⟨fun c => ?_, fun _ => ?_⟩
      · have := (z_le (a := 4) (by decide) (by omega)).mp c
        omega
      refine ⟨nl rfl, _, _, c0, rfl, ?_⟩
      refine ⟨by show 1 ≤ u; omega, by show 11 ≤ w; omega, 3, n, nl rfl, e3, ?_⟩
      refine ⟨rfl, nl rfl, 5, 20, by show 5 ≤ u - 1; omega, by show 20 ≤ w - 11; omega, c_minit (m := n) (by omega) (x_up_self _ _ _ _) (by rw [x_up_ne (by omega)]; exact e4) (by rw [x_up_ne (by omega)]; exact e5) (by rw [x_up_ne (by omega)]; exact e6) (by rw [x_up_ne (by omega)]; exact e66) (by rw [x_up_ne (by omega)]; exact e8) fun S2 f b1 b2 b3 b4 b5 b6 b7 b8 => ?_⟩
      have c9b : S2 9 0 = some (.inr (4, 4, .inr (.inr f9))) := by
        rw [b8 9 0 (by omega) (by omega) (by omega) (by omega) (by omega), x_up_ne (by omega)]
        exact c9
      refine ⟨4, f9, _, c9b, b1, nl rfl, nl rfl, z_in (by omega) (by decide), ?_⟩
      rw [z_nat (by omega)]
      have kk := ih (n + 1) (x_up S2 9 0 (.inr (4, 4, .inr (.inr (va_up f9 n (some (3, n))))))) (u - 1 - 5) (w - 11 - 20) (by omega) (by omega) ?_ ?_ (by omega) (by omega)
      · rw [← z_suc] at kk
        exact x_go.back mn_C_init (x_go.run mn_C_init 2 kk)
      · have fr : ∀ k i, ¬ (k = 9 ∧ i = 0) → ¬ (k = 3 ∧ i = n) → ¬ (k = 4 ∧ i = n) → ¬ (k = 5 ∧ i = n) → ¬ (k = 6 ∧ (i = n ∨ i = 6 + n)) → ¬ (k = 8 ∧ i = 2 + n) → x_up S2 9 0 (.inr (4, 4, .inr (.inr (va_up f9 n (some (3, n)))))) k i = S1 k i := fun k i a1 a2 a3 a4 a5 a6 => by
          rw [x_up_ne a1, b8 k i a2 a3 a4 a5 a6, x_up_ne a2]
        refine ⟨⟨_, x_up_self _ _ _ _, fun m hm => ?_⟩, ?_, ?_, ?_, ?_, ?_, ?_, ?_, ?_, fun m hm => ?_, fun m h1 h2 => ?_, fun k i hk10 => ?_⟩
        · by_cases e : m = n
          · rw [e, va_up_self]
          · rw [va_up_ne _ _ e]
            exact c9' m (by omega)
        · rw [fr 0 0 (by omega) (by omega) (by omega) (by omega) (by omega) (by omega)]
          exact c0
        · rw [fr 1 0 (by omega) (by omega) (by omega) (by omega) (by omega) (by omega)]
          exact c1
        · rw [fr 6 5 (by omega) (by omega) (by omega) (by omega) (by omega) (by omega)]
          exact c65
        · rw [fr 8 0 (by omega) (by omega) (by omega) (by omega) (by omega) (by omega)]
          exact c80
        · rw [fr 2 0 (by omega) (by omega) (by omega) (by omega) (by omega) (by omega)]
          exact c2
        · rw [fr 4 4 (by omega) (by omega) (by omega) (by omega) (by omega) (by omega)]
          exact c44
        · rw [fr 6 4 (by omega) (by omega) (by omega) (by omega) (by omega) (by omega)]
          exact c64
        · rw [fr 8 1 (by omega) (by omega) (by omega) (by omega) (by omega) (by omega)]
          exact c81
        · by_cases e : m = n
          · subst e
            rw [x_up_ne (by omega), x_up_ne (by omega), x_up_ne (by omega), x_up_ne (by omega), x_up_ne (by omega), x_up_ne (by omega)]
            exact ⟨b1, b2, b3, b4, b5, f, b6, b7⟩
          · rw [fr 3 m (by omega) (by omega) (by omega) (by omega) (by omega) (by omega), fr 4 m (by omega) (by omega) (by omega) (by omega) (by omega) (by omega), fr 6 m (by omega) (by omega) (by omega) (by omega) (by omega) (by omega), fr 6 (6 + m) (by omega) (by omega) (by omega) (by omega) (by omega) (by omega), fr 5 m (by omega) (by omega) (by omega) (by omega) (by omega) (by omega), fr 8 (2 + m) (by omega) (by omega) (by omega) (by omega) (by omega) (by omega)]
            exact cm m (by omega)
        · rw [fr 3 m (by omega) (by omega) (by omega) (by omega) (by omega) (by omega), fr 4 m (by omega) (by omega) (by omega) (by omega) (by omega) (by omega), fr 6 m (by omega) (by omega) (by omega) (by omega) (by omega) (by omega), fr 6 (6 + m) (by omega) (by omega) (by omega) (by omega) (by omega) (by omega), fr 5 m (by omega) (by omega) (by omega) (by omega) (by omega) (by omega), fr 8 (2 + m) (by omega) (by omega) (by omega) (by omega) (by omega) (by omega)]
          exact cf m (by omega) h2
        · rw [fr k i (by omega) (by omega) (by omega) (by omega) (by omega) (by omega)]
          exact ck k i hk10
      · intro k i hk10
        rw [x_up_ne (by omega), b8 k i (by omega) (by omega) (by omega) (by omega) (by omega), x_up_ne (by omega)]
        exact hk k i hk10
  refine x_go.run mn_C_init 30 ?_
  refine ⟨nl rfl, ?_⟩
  refine ⟨by decide, by decide, nl rfl, nl rfl, 9, 0, nl rfl, hn 9 0 (by omega), ?_⟩
  refine ⟨trivial, _, by rw [x_up_ne (by decide)]; exact h0, nl rfl, nl rfl, ?_⟩
  refine ⟨nl rfl, nl rfl, 1, 0, nl rfl, by rw [x_up_ne (by decide), x_up_ne (by decide)]; exact hn 1 0 (by omega), ?_⟩
  refine ⟨rfl, nl rfl, 1, 3, nl rfl, nl rfl, c_ninit (x_up_self _ _ _ _) (by rw [x_up_ne (by decide), x_up_ne (by decide), x_up_ne (by decide)]; exact hn 6 5 (by omega)) fun S1 a1 a2 a3 => ?_⟩
  have a3' : ∀ k i, ¬ (k = 1 ∧ i = 0) → ¬ (k = 6 ∧ i = 5) → ¬ (k = 0 ∧ i = 0) → ¬ (k = 9 ∧ i = 0) → S1 k i = S k i := fun k i b1 b2 b3 b4 => by
    rw [a3 k i b1 b2, x_up_ne b1, x_up_ne b3, x_up_ne b4]
  have a00 : S1 0 0 = some (.inl (0, xD0.set 2 (xv_r 9 0))) := by
    rw [a3 0 0 (by decide) (by decide), x_up_ne (by decide), x_up_self]
  have a90 : S1 9 0 = some (.inr (4, 4, .inr (.inr (fun _ => none)))) := by
    rw [a3 9 0 (by decide) (by decide), x_up_ne (by decide), x_up_ne (by decide), x_up_self]
    rfl
  refine ⟨by decide, by decide, nl rfl, nl rfl, 8, 0, nl rfl, by rw [a3' 8 0 (by decide) (by decide) (by decide) (by decide)]; exact hn 8 0 (by omega), ?_⟩
  refine ⟨trivial, _, by rw [x_up_ne (by decide)]; exact a00, nl rfl, nl rfl, ?_⟩
  refine ⟨trivial, _, x_up_self _ _ _ _, nl rfl, nl rfl, ?_⟩
  refine ⟨nl rfl, nl rfl, 2, 0, nl rfl, by rw [x_up_ne (by decide), x_up_ne (by decide), x_up_ne (by decide), a3' 2 0 (by decide) (by decide) (by decide) (by decide)]; exact hn 2 0 (by omega), ?_⟩
  refine ⟨rfl, nl rfl, 3, 208, nl rfl, nl rfl, c_binit (x_up_self _ _ _ _) (by rw [x_up_ne (by decide), x_up_ne (by decide), x_up_ne (by decide), x_up_ne (by decide), a3' 4 4 (by decide) (by decide) (by decide) (by decide)]; exact hn 4 4 (by omega)) (by rw [x_up_ne (by decide), x_up_ne (by decide), x_up_ne (by decide), x_up_ne (by decide), a3' 6 4 (by decide) (by decide) (by decide) (by decide)]; exact hn 6 4 (by omega)) (by rw [x_up_ne (by decide), x_up_ne (by decide), x_up_ne (by decide), x_up_ne (by decide), a3' 8 1 (by decide) (by decide) (by decide) (by decide)]; exact hn 8 1 (by omega)) fun S2 b1 b2 b3 b4 b5 => ?_⟩
  have b00 : S2 0 0 = some (.inl (0, ((xD0.set 2 (xv_r 9 0)).set 0 (xv_r 1 0)).set 3 (xv_r 8 0))) := by
    rw [b5 0 0 (by decide) (by decide) (by decide) (by decide), x_up_ne (by decide), x_up_self]
  refine ⟨trivial, _, b00, nl rfl, nl rfl, ?_⟩
  have fr : ∀ k i, ¬ (k = 0 ∧ i = 0) → ¬ (k = 2 ∧ i = 0) → ¬ (k = 4 ∧ i = 4) → ¬ (k = 6 ∧ i = 4) → ¬ (k = 8 ∧ i = 1) → ¬ (k = 8 ∧ i = 0) → x_up S2 0 0 (.inl (0, (((xD0.set 2 (xv_r 9 0)).set 0 (xv_r 1 0)).set 3 (xv_r 8 0)).set 1 (xv_r 2 0))) k i = S1 k i := fun k i q1 q2 q3 q4 q5 q6 => by
    rw [x_up_ne q1, b5 k i q2 q3 q4 q5, x_up_ne q2, x_up_ne q1, x_up_ne q1, x_up_ne q6]
  refine x_go.back mn_C_init (x_go.run mn_C_init 2 (loop 4 0 _ _ _ rfl (by decide) ?_ ?_ (nl rfl) (nl rfl)))
  · refine ⟨⟨fun _ => none, by rw [fr 9 0 (by decide) (by decide) (by decide) (by decide) (by decide) (by decide)]; exact a90, fun m hm => by omega⟩, x_up_self _ _ _ _, by rw [fr 1 0 (by decide) (by decide) (by decide) (by decide) (by decide) (by decide)]; exact a1, by rw [fr 6 5 (by decide) (by decide) (by decide) (by decide) (by decide) (by decide)]; exact a2, ?_, by rw [x_up_ne (by simp)]; exact b1, by rw [x_up_ne (by simp)]; exact b2, by rw [x_up_ne (by simp)]; exact b3, by rw [x_up_ne (by simp)]; exact b4, fun m hm => by omega, fun m _ h4 => ?_, fun k i hk => ?_⟩
    · rw [x_up_ne (by simp), b5 8 0 (by decide) (by decide) (by decide) (by decide), x_up_ne (by decide), x_up_ne (by decide), x_up_ne (by decide), x_up_self]
      rfl
    · rw [fr 3 m (by omega) (by omega) (by omega) (by omega) (by omega) (by omega), fr 4 m (by omega) (by omega) (by omega) (by omega) (by omega) (by omega), fr 6 m (by omega) (by omega) (by omega) (by omega) (by omega) (by omega), fr 6 (6 + m) (by omega) (by omega) (by omega) (by omega) (by omega) (by omega), fr 5 m (by omega) (by omega) (by omega) (by omega) (by omega) (by omega), fr 8 (2 + m) (by omega) (by omega) (by omega) (by omega) (by omega) (by omega)]
      rw [a3' 3 m (by omega) (by omega) (by omega) (by omega), a3' 4 m (by omega) (by omega) (by omega) (by omega), a3' 6 m (by omega) (by omega) (by omega) (by omega), a3' 6 (6 + m) (by omega) (by omega) (by omega) (by omega), a3' 5 m (by omega) (by omega) (by omega) (by omega), a3' 8 (2 + m) (by omega) (by omega) (by omega) (by omega)]
      exact ⟨hn _ _ (by omega), hn _ _ (by omega), hn _ _ (by omega), hn _ _ (by omega), hn _ _ (by omega), hn _ _ (by omega)⟩
    · rw [fr k i (by omega) (by omega) (by omega) (by omega) (by omega) (by omega), a3' k i (by omega) (by omega) (by omega) (by omega)]
  · intro k i hk
    rw [fr k i (by omega) (by omega) (by omega) (by omega) (by omega) (by omega), a3' k i (by omega) (by omega) (by omega) (by omega)]
end DD
