section CX
variable {S : XH} {P : XP} {j cap : Nat} {l : List R6}
theorem laft.rf : laft j S S := fun _ _ _ _ => rfl
theorem laft.tr {S1 S2 : XH} (h : laft j S S1) (h' : laft j S1 S2) : laft j S S2 := fun k i a b => (h' k i a b).trans (h k i a b)
theorem laft.up6 {c : XC} (h : laft j S S) : laft j S (x_up S 6 j c) := fun k i a b => x_up_ne a
theorem laft.up {S1 : XH} {k i : Nat} {c : XC} (h : laft j S S1) (hk : (k = 6 ∧ i = j) ∨ k = 20 + j) : laft j S (x_up S1 k i c) := fun k' i' a b => by
  rw [x_up_ne (by omega)]
  exact h k' i' a b
theorem c_clear (h : LO S j cap l) (hj : j < 10) (hF : RF S) (hP : ∀ S', LO S' j cap [] → laft j S S' → RF S' → P (.inl none) S') : Y_A_clear 0 0 [xv_r 6 j] S P := by
  have hlen := h.len
  obtain ⟨k, a, f, md, h1, h2, h3, h4, h5, h6⟩ := h
  have hne : ¬ (k = 6 ∧ a = j) := by rcases h5 with ⟨rfl, -⟩ | ⟨rfl, -⟩ <;> omega
  have loop : ∀ r i (S1 : XH) (f1 : Nat → Option (Nat × Nat)), l.length - i = r → i ≤ l.length → S1 6 j = some (.inl (8, [xv_r k a, xv_i 0, xv_i (md + 1)])) → S1 k a = some (.inr (3, cap, .inr (.inr f1))) → laft j S S1 → RF S1 → (k ≠ 54 ∨ l.length = 0) →
      x_go b_A_clear P 27 [some (xv_r 6 j), some (xv_r k a), some (xv_i (Int32.ofNat l.length)), some (xv_i (Int32.ofNat i))] [] S1 0 0 := by
    intro r
    induction r with
    | zero =>
      intro i S1 f1 hr hi g1 g2 g3 g4 _
      refine x_go.run mn_A_clear 6 ?_
      refine ⟨fun _ => hP S1 ⟨k, a, f1, md + 1, g1, g2, Nat.zero_le _, h4, h5, fun i hi => by cases hi⟩ g3 g4, fun c => (c ((z_le (by omega) (by omega)).mpr (by omega))).elim⟩
    | succ r ih =>
      intro i S1 f1 hr hi g1 g2 g3 g4 g5
      have hk20 : k = 20 + j := by
        rcases h5 with ⟨z, -, y⟩ | ⟨z, -⟩
        · omega
        · exact z
      subst hk20
      refine x_go.run mn_A_clear 10 ?_
      refine ⟨fun c => ?_, fun _ => ?_⟩
      · have := (z_le (by omega) (by omega)).mp c
        omega
      refine Or.inr (Or.inr ⟨cap, f1, g2, by simp; omega, z_in (by omega) (by omega), ?_⟩)
      rw [z_nat (by omega)]
      have kk := ih (i + 1) _ (va_up f1 i none) (by omega) (by omega) (by rw [x_up_ne (by omega)]; exact g1) (x_up_self _ _ _ _) (g3.up (Or.inr rfl)) g4.up g5
      rw [← z_suc] at kk
      exact x_go.back mn_A_clear (x_go.run mn_A_clear 2 kk)
  refine x_go.run mn_A_clear 20 ?_
  refine ⟨nl rfl, _, _, h1, rfl, ?_⟩
  refine ⟨trivial, _, h1, nl rfl, nl rfl, ?_⟩
  have g1 : x_up S 6 j (.inl (8, [xv_r k a, xv_i (Int32.ofNat l.length), xv_i (md + 1)])) 6 j = some (.inl (8, [xv_r k a, xv_i (Int32.ofNat l.length), xv_i (md + 1)])) := x_up_self _ _ _ _
  show x_run b_A_clear P (x_go b_A_clear P) 14 10 [some (xv_r 6 j), none, none, none] [] (x_up S 6 j (.inl (8, [xv_r k a, xv_i (Int32.ofNat l.length), xv_i (md + 1)]))) 0 0
  refine ⟨nl rfl, _, _, g1, rfl, ?_⟩
  refine ⟨nl rfl, _, _, g1, rfl, ?_⟩
  refine ⟨trivial, _, g1, nl rfl, nl rfl, ?_⟩
  refine x_go.back mn_A_clear (x_go.run mn_A_clear 1 (loop _ 0 _ f rfl (Nat.zero_le _) (x_up_self _ _ _ _) ?_ ?_ hF.up.up ?_))
  · rw [x_up_ne hne, x_up_ne hne]
    exact h2
  · exact (laft.rf.up (Or.inl ⟨rfl, rfl⟩)).up (Or.inl ⟨rfl, rfl⟩)
  · rcases h5 with ⟨-, -, z⟩ | ⟨z, -⟩
    · right
      omega
    · left
      omega
theorem erase_at {i : Nat} (hi : i < l.length) {q : Nat} (hq : q < (l.eraseIdx i).length) : (l.eraseIdx i)[q] = if h : q < i then l[q]'(by omega) else l[q + 1]'(by rw [List.length_eraseIdx_of_lt hi] at hq; omega) := by
  rw [List.getElem_eraseIdx]
theorem c_fastRm {i a : Nat} {f : Nat → Option (Nat × Nat)} {md : Int32} (hj : j < 10) (h1 : S 6 j = some (.inl (8, [xv_r (20 + j) a, xv_i (Int32.ofNat l.length), xv_i md]))) (h2 : S (20 + j) a = some (.inr (3, cap, .inr (.inr f)))) (h3 : l.length ≤ cap) (h4 : cap ≤ 10000) (hi : i < l.length) (hF : RF S) (hel : el6 S f l.length)
    (hQ : ∀ (S2 : XH) (f2 : Nat → Option (Nat × Nat)), S2 6 j = some (.inl (8, [xv_r (20 + j) a, xv_i (Int32.ofNat (l.length - 1)), xv_i (md + 1)])) → S2 (20 + j) a = some (.inr (3, cap, .inr (.inr f2))) → laft j S S2 → RF S2 → (∀ q, q < l.length - 1 → f2 q = if q < i then f q else f (q + 1)) → P (.inl none) S2) : Y_A_fastRemove 0 0 [xv_r 6 j, xv_r (20 + j) a, xv_i (Int32.ofNat i)] S P := by
  have en : Int32.ofNat l.length - 1 = Int32.ofNat (l.length - 1) := z_sub (b := 1) (by omega)
  refine x_go.run mn_A_fastRemove 40 ?_
  refine ⟨nl rfl, _, _, h1, rfl, ?_⟩
  refine ⟨trivial, _, h1, nl rfl, nl rfl, ?_⟩
  have g1 : x_up S 6 j (.inl (8, [xv_r (20 + j) a, xv_i (Int32.ofNat l.length), xv_i (md + 1)])) 6 j = some (.inl (8, [xv_r (20 + j) a, xv_i (Int32.ofNat l.length), xv_i (md + 1)])) := x_up_self _ _ _ _
  have g2 : x_up S 6 j (.inl (8, [xv_r (20 + j) a, xv_i (Int32.ofNat l.length), xv_i (md + 1)])) (20 + j) a = some (.inr (3, cap, .inr (.inr f))) := by
    rw [x_up_ne (by omega)]
    exact h2
  have g3 : laft j S (x_up S 6 j (.inl (8, [xv_r (20 + j) a, xv_i (Int32.ofNat l.length), xv_i (md + 1)]))) := laft.rf.up (Or.inl ⟨rfl, rfl⟩)
  have g4 : RF (x_up S 6 j (.inl (8, [xv_r (20 + j) a, xv_i (Int32.ofNat l.length), xv_i (md + 1)]))) := hF.up
  refine x_go.back mn_A_fastRemove ?_
  show x_go b_A_fastRemove P 10 [some (xv_r 6 j), some (xv_r (20 + j) a), some (xv_i (Int32.ofNat i)), none] [] (x_up S 6 j (.inl (8, [xv_r (20 + j) a, xv_i (Int32.ofNat l.length), xv_i (md + 1)]))) 0 0
  have g5 : el6 (x_up S 6 j (.inl (8, [xv_r (20 + j) a, xv_i (Int32.ofNat l.length), xv_i (md + 1)]))) f l.length := hel.up (Or.inl (by omega))
  generalize x_up S 6 j (.inl (8, [xv_r (20 + j) a, xv_i (Int32.ofNat l.length), xv_i (md + 1)])) = S1 at g1 g2 g3 g4 g5 ⊢
  -- the last place is emptied
  have last : ∀ (S2 : XH) (f2 : Nat → Option (Nat × Nat)), S2 6 j = some (.inl (8, [xv_r (20 + j) a, xv_i (Int32.ofNat l.length), xv_i (md + 1)])) → S2 (20 + j) a = some (.inr (3, cap, .inr (.inr f2))) → laft j S S2 → RF S2 → (∀ q, q < l.length - 1 → f2 q = if q < i then f q else f (q + 1)) →
      x_go b_A_fastRemove P 34 [some (xv_r 6 j), some (xv_r (20 + j) a), some (xv_i (Int32.ofNat i)), some (xv_i (Int32.ofNat (l.length - 1)))] [] S2 0 0 := by
    intro S2 f2 b1 b2 b3 b4 b5
    refine x_go.run mn_A_fastRemove 12 ?_
    refine ⟨trivial, _, b1, nl rfl, nl rfl, ?_⟩
    refine Or.inr (Or.inr ⟨cap, f2, by rw [x_up_ne (by simp; omega)]; exact b2, by simp; omega, z_in (by omega) (by omega), ?_⟩)
    rw [z_nat (by omega)]
    refine hQ _ (va_up f2 (l.length - 1) none) ?_ (x_up_self _ _ _ _) ((b3.up (Or.inl ⟨rfl, rfl⟩)).up (Or.inr rfl)) b4.up.up fun q hq => ?_
    · rw [x_up_ne (by simp; omega), x_up_self]
      rfl
    · rw [va_up_ne _ _ (by omega)]
      exact b5 q hq
  refine x_go.run mn_A_fastRemove 8 ?_
  refine ⟨nl rfl, _, _, g1, rfl, ?_⟩
  refine ⟨fun c => ?_, fun c => ?_⟩
  · have c : Int32.ofNat l.length - 1 ≤ Int32.ofNat i := c
    rw [en] at c
    have := (z_le (by omega) (by omega)).mp c
    show x_go b_A_fastRemove P 34 [some (xv_r 6 j), some (xv_r (20 + j) a), some (xv_i (Int32.ofNat i)), some (xv_i (Int32.ofNat l.length - 1))] [] S1 0 0
    rw [en]
    exact last S1 f g1 g2 g3 g4 fun q hq => by rw [if_pos (by omega)]
  · have c : ¬ Int32.ofNat l.length - 1 ≤ Int32.ofNat i := c
    rw [en] at c
    have hlt : i < l.length - 1 := by
      rcases Nat.lt_or_ge i (l.length - 1) with y | y
      · exact y
      · exact (c ((z_le (by omega) (by omega)).mpr y)).elim
    show x_go b_A_fastRemove P 22 [some (xv_r 6 j), some (xv_r (20 + j) a), some (xv_i (Int32.ofNat i)), some (xv_i (Int32.ofNat l.length - 1))] [] S1 0 0
    rw [en]
    have e2 : Int32.ofNat (l.length - 1) - Int32.ofNat i = Int32.ofNat (l.length - 1 - i) := z_sub (by omega)
    have c1 : (Int32.ofNat i + 1).toNatClampNeg = i + 1 := by
      rw [z_suc, z_nat (by omega)]
    have c2 : (Int32.ofNat (l.length - 1) - Int32.ofNat i).toNatClampNeg = l.length - 1 - i := by
      rw [e2, z_nat (by omega)]
    refine x_go.run mn_A_fastRemove 10 ?_
    refine ⟨nl rfl, cap, f, cap, f, g2, g2, by simp; omega, by simp; omega, ?_, z_neg (by omega), ?_, ?_, ?_, ?_, ?_⟩
    · show ¬ Int32.ofNat i + 1 < 0
      rw [z_suc]
      exact z_neg (by omega)
    · show ¬ Int32.ofNat (l.length - 1) - Int32.ofNat i < 0
      rw [e2]
      exact z_neg (by omega)
    · show (Int32.ofNat i + 1).toNatClampNeg + (Int32.ofNat (l.length - 1) - Int32.ofNat i).toNatClampNeg ≤ cap
      rw [c1, c2]
      omega
    · show (Int32.ofNat i).toNatClampNeg + (Int32.ofNat (l.length - 1) - Int32.ofNat i).toNatClampNeg ≤ cap
      rw [c2, z_nat (by omega)]
      omega
    · show x_elO S1 f (Int32.ofNat i + 1).toNatClampNeg (Int32.ofNat (l.length - 1) - Int32.ofNat i).toNatClampNeg
      rw [c1, c2]
      exact g5.use (by omega)
    · refine last _ _ ?_ (x_up_self _ _ _ _) (g3.up (Or.inr rfl)) g4.up fun q hq => ?_
      · rw [x_up_ne (by simp; omega)]
        exact g1
      · show va_cpy f f (Int32.ofNat i + 1).toNatClampNeg (Int32.ofNat i).toNatClampNeg (Int32.ofNat (l.length - 1) - Int32.ofNat i).toNatClampNeg q = _
        rw [c1, c2, z_nat (by omega)]
        unfold va_cpy
        by_cases z : q < i
        · rw [if_neg (by omega), if_pos z]
        · rw [if_pos (by omega), if_neg z]
          congr 1
          omega
set_option maxHeartbeats 1000000 in
theorem c_remove {i : Nat} (h : LO S j cap l) (hj : j < 10) (hi : i < l.length) (hF : RF S) (hP : ∀ S' p, LO S' j cap (l.eraseIdx i) → laft j S S' → RF S' → S (lk j) p ≠ none → P (.inl (some (xv_r (lk j) p))) S') : Y_A_remove 0 0 [xv_r 6 j, xv_i (Int32.ofNat i)] S P := by
  have hlen := h.len
  obtain ⟨k, a, f, md, h1, h2, h3, h4, h5, h6⟩ := h
  have hk20 : k = 20 + j := by
    rcases h5 with ⟨z, -, y⟩ | ⟨z, -⟩
    · omega
    · exact z
  subst hk20
  have h10 : 10 ≤ cap := by
    rcases h5 with ⟨z, -, y⟩ | ⟨-, z⟩
    · omega
    · exact z
  obtain ⟨p, p1, p2⟩ := h6 i hi
  have hlk : lk j < 15 ∧ 10 ≤ lk j := by
    unfold lk
    split <;> decide
  have hel : el6 S f l.length := by
    intro i hi q hq
    obtain ⟨p2, r1, r2⟩ := h6 i (by omega)
    rw [r1] at hq
    cases hq
    refine ⟨hlk.1, hlk.2, lcl j, lR j (l[i]'(by omega)), ?_, r2⟩
    unfold lcl
    split
    · exact Or.inr rfl
    · exact Or.inl rfl
  -- behind the removal
  have fin : ∀ (S2 : XH) (f2 : Nat → Option (Nat × Nat)), S2 6 j = some (.inl (8, [xv_r (20 + j) a, xv_i (Int32.ofNat (l.length - 1)), xv_i (md + 1)])) → S2 (20 + j) a = some (.inr (3, cap, .inr (.inr f2))) → laft j S S2 → RF S2 → (∀ q, q < l.length - 1 → f2 q = if q < i then f q else f (q + 1)) → P (.inl (some (xv_r (lk j) p))) S2 := by
    intro S2 f2 g1 g2 g3 g4 g5
    have el : (l.eraseIdx i).length = l.length - 1 := List.length_eraseIdx_of_lt hi
    refine hP S2 p ⟨20 + j, a, f2, md + 1, by rw [el]; exact g1, g2, by rw [el]; omega, h4, Or.inr ⟨rfl, h10⟩, fun q hq => ?_⟩ g3 g4 (by rw [p2]; simp)
    rw [erase_at hi hq]
    rw [el] at hq
    rw [g5 q hq]
    by_cases z : q < i
    · rw [if_pos z, dif_pos z]
      obtain ⟨p', r1, r2⟩ := h6 q (by omega)
      exact ⟨p', r1, by rw [g3 _ _ (by omega) (by omega)]; exact r2⟩
    · rw [if_neg z, dif_neg z]
      obtain ⟨p', r1, r2⟩ := h6 (q + 1) (by omega)
      exact ⟨p', r1, by rw [g3 _ _ (by omega) (by omega)]; exact r2⟩
  refine x_go.run mn_A_remove 20 ?_
  refine ⟨nl rfl, _, _, h1, rfl, ?_⟩
  refine ⟨nl rfl, rfl, nl rfl, 0, 0, Nat.zero_le _, Nat.zero_le _, c_check hi (by omega) ?_⟩
  refine ⟨nl rfl, _, _, h1, rfl, ?_⟩
  refine ⟨by simp; omega, _, _, h2, z_in (by omega) (by omega), ?_⟩
  rw [z_nat (by omega), p1]
  refine ⟨nl rfl, ⟨_, h1⟩, rfl, nl rfl, 0, 0, Nat.zero_le _, Nat.zero_le _, c_fastRm hj h1 h2 h3 h4 hi hF hel fun S2 f2 b1 b2 b3 b4 b5 => ?_⟩
  exact fin S2 f2 b1 b2 b3 b4 b5
end CX
