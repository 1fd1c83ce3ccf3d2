theorem c_grow {S : XH} {P : XP} {j k a cap a' : Nat} {f : Nat → Option (Nat × Nat)} {md : Int32} (hj : j < 10) (h1 : S 6 j = some (.inl (8, [xv_r k a, xv_i (Int32.ofNat cap), xv_i md]))) (h2 : S k a = some (.inr (3, cap, .inr (.inr f)))) (h4 : cap ≤ 6000) (h5 : (k = 54 ∧ a = 0 ∧ cap = 0) ∨ (k = 20 + j ∧ 10 ≤ cap)) (ha : S (20 + j) a' = none) (h54 : S 54 0 ≠ none)
    (hP : ∀ f', (∀ i, i < cap → f' i = f i) → P (.inl (some (xv_r (20 + j) a'))) (x_up (x_up S (20 + j) a' (.inr (3, gc cap, .inr (.inr f')))) 6 j (.inl (8, [xv_r (20 + j) a', xv_i (Int32.ofNat cap), xv_i md])))) : Y_A_grow 1 (gc cap) [xv_r 6 j] S P := by
  refine x_go.run mn_A_grow 10 ?_
  refine ⟨nl rfl, _, _, h1, rfl, ?_⟩
  refine ⟨nl rfl, ⟨_, h1⟩, rfl, nl rfl, 1, gc cap, nl rfl, Nat.le_refl _, ?_⟩
  refine x_go.run mn_A_grow_2 60 ?_
  refine ⟨nl rfl, _, _, h1, rfl, ?_⟩
  refine ⟨_, _, _, h2, by decide, ?_⟩
  rcases h5 with ⟨rfl, rfl, rfl⟩ | ⟨rfl, h10⟩
  · refine ⟨fun c => absurd c (by decide), fun _ => ?_⟩
    refine ⟨nl rfl, _, _, h1, rfl, ?_⟩
    refine ⟨Or.inr (Or.inr ⟨rfl, Or.inr (Or.inr rfl)⟩), fun _ => ?_, fun c => (c rfl).elim⟩
    refine ⟨nl rfl, ?_⟩
    refine ⟨by decide, by decide, nl rfl, nl rfl, 20 + j, a', by omega, ha, ?_⟩
    refine ⟨trivial, _, by rw [x_up_ne (by omega)]; exact h1, nl rfl, nl rfl, ?_⟩
    exact hP _ fun i hi => by omega
  · refine ⟨fun _ => ?_, fun c => (c ?_).elim⟩
    · sorry
    · have := (z_lt (a := 0) (b := cap) (by decide) (by omega)).mpr (by omega)
      exact this
/-- behind a list's change -/
def laft (j : Nat) (S S' : XH) : Prop := ∀ k i, ¬ (k = 6 ∧ i = j) → k ≠ 20 + j → S' k i = S k i
def full (l : List R6) (cap : Nat) : Nat := if l.length = cap then 1 else 0
theorem c_add {S : XH} {P : XP} {j cap p : Nat} {l : List R6} {e : R6} (h : LO S j cap l) (hj : j < 10) (hp : S (lk j) p = some (.inl (lcl j, lR j e))) (hc : l.length ≤ 6000) (hF : RF S) (h54 : S 54 0 ≠ none)
    (hP : ∀ S', LO S' j (if l.length = cap then gc cap else cap) (l ++ [e]) → laft j S S' → RF S' → P (.inl (some (xv_i 1))) S') : Y_A_add (full l cap) (full l cap * gc cap) [xv_r 6 j, xv_r (lk j) p] S P := by
  have hlk : lk j < 15 ∧ 10 ≤ lk j := by
    unfold lk
    split <;> decide
  obtain ⟨k, a, f, md, h1, h2, h3, h4, h5, h6⟩ := h
  refine x_go.run mn_A_add 20 ?_
  refine ⟨nl rfl, _, _, h1, rfl, ?_⟩
  refine ⟨trivial, _, h1, nl rfl, nl rfl, ?_⟩
  have h1' : x_up S 6 j (.inl (8, [xv_r k a, xv_i (Int32.ofNat l.length), xv_i (md + 1)])) 6 j = some (.inl (8, [xv_r k a, xv_i (Int32.ofNat l.length), xv_i (md + 1)])) := x_up_self _ _ _ _
  have hS : ∀ k' i', ¬ (k' = 6 ∧ i' = j) → x_up S 6 j (.inl (8, [xv_r k a, xv_i (Int32.ofNat l.length), xv_i (md + 1)])) k' i' = S k' i' := fun k' i' q => x_up_ne q
  have hF1 : RF (x_up S 6 j (.inl (8, [xv_r k a, xv_i (Int32.ofNat l.length), xv_i (md + 1)]))) := hF.up
  show x_run b_A_add P (x_go b_A_add P) 14 10 [some (xv_r 6 j), some (xv_r (lk j) p)] [] (x_up S 6 j (.inl (8, [xv_r k a, xv_i (Int32.ofNat l.length), xv_i (md + 1)]))) (full l cap) (full l cap * gc cap)
  generalize x_up S 6 j (.inl (8, [xv_r k a, xv_i (Int32.ofNat l.length), xv_i (md + 1)])) = S1 at h1' hS hF1 ⊢
  have hk6 : ¬ (k = 6 ∧ a = j) := by rcases h5 with ⟨rfl, -⟩ | ⟨rfl, -⟩ <;> omega
  have h2' : S1 k a = some (.inr (3, cap, .inr (.inr f))) := by rw [hS k a hk6]; exact h2
  have hp' : S1 (lk j) p = some (.inl (lcl j, lR j e)) := by rw [hS _ _ (by omega)]; exact hp
  refine ⟨nl rfl, _, _, h1', rfl, ?_⟩
  refine ⟨nl rfl, _, _, h1', rfl, ?_⟩
  refine ⟨nl rfl, ⟨_, h1'⟩, rfl, nl rfl, full l cap, full l cap * gc cap, Nat.le_refl _, Nat.le_refl _, ?_⟩
  -- the store, in an array with room
  have store : ∀ (k2 a2 cap2 : Nat) (f2 : Nat → Option (Nat × Nat)) (S2 : XH) (u w : Nat) (Q : XP), k2 = 20 + j → S2 6 j = some (.inl (8, [xv_r k2 a2, xv_i (Int32.ofNat l.length), xv_i (md + 1)])) → S2 k2 a2 = some (.inr (3, cap2, .inr (.inr f2))) → l.length < cap2 → cap2 ≤ 10000 → 10 ≤ cap2 → (∀ i, i < l.length → f2 i = f i) → (∀ k' i', ¬ (k' = 6 ∧ i' = j) → k' ≠ 20 + j → S2 k' i' = S k' i') → RF S2 → cap2 = (if l.length = cap then gc cap else cap) →
      (∀ S', LO S' j (if l.length = cap then gc cap else cap) (l ++ [e]) → laft j S S' → RF S' → Q (.inl none) S') →
      x_go b_A_add_2 Q 11 [some (xv_r 6 j), some (xv_r (lk j) p), some (xv_r k2 a2), some (xv_i (Int32.ofNat l.length))] [] S2 u w := by
    intro k2 a2 cap2 f2 S2 u w Q hk2 b1 b2 b3 b4 b4' b5 b6 b7 b8 hQ
    subst hk2
    have hpS : S2 (lk j) p = some (.inl (lcl j, lR j e)) := by rw [b6 _ _ (by omega) (by omega)]; exact hp
    have fin : ∀ S', S' = x_up (x_up S2 (20 + j) a2 (.inr (3, cap2, .inr (.inr (va_up f2 l.length (some (lk j, p))))))) 6 j (.inl (8, [xv_r (20 + j) a2, xv_i (Int32.ofNat (l.length + 1)), xv_i (md + 1)])) → Q (.inl none) S' := by
      intro S' hS'
      subst hS'
      refine hQ _ ⟨20 + j, a2, va_up f2 l.length (some (lk j, p)), md + 1, ?_, ?_, ?_, ?_, Or.inr ⟨rfl, ?_⟩, fun i hi => ?_⟩ (fun k' i' q1 q2 => ?_) (b7.up.up)
      · rw [x_up_self, List.length_append]
        rfl
      · rw [x_up_ne (by omega), x_up_self, b8]
      · rw [List.length_append, ← b8]
        exact b3
      · rw [← b8]
        exact b4
      · rw [← b8]
        exact b4'
      · have hne : ∀ z, ¬ (lk j = 6 ∧ z = j) ∧ ¬ (lk j = 20 + j ∧ z = a2) := fun z => by omega
        by_cases ei : i = l.length
        · subst ei
          refine ⟨p, va_up_self _ _ _, ?_⟩
          rw [x_up_ne (hne p).1, x_up_ne (hne p).2, List.getElem_concat_length rfl]
          exact hpS
        · have hi' : i < l.length := by
            rw [List.length_append] at hi
            change i < _ + 1 at hi
            omega
          obtain ⟨p2, r1, r2⟩ := h6 i hi'
          refine ⟨p2, ?_, ?_⟩
          · rw [va_up_ne _ _ ei, b5 i hi']
            exact r1
          · rw [x_up_ne (hne p2).1, x_up_ne (hne p2).2, List.getElem_append_left hi', b6 _ _ (by omega) (by omega)]
            exact r2
      · rw [x_up_ne q1, x_up_ne (by omega)]
        exact b6 k' i' q1 q2
    have stepS : ∀ S', S' = x_up S2 (20 + j) a2 (.inr (3, cap2, .inr (.inr (va_up f2 l.length (some (lk j, p)))))) → x_go b_A_add_2 Q 15 [some (xv_r 6 j), some (xv_r (lk j) p), some (xv_r (20 + j) a2), some (xv_i (Int32.ofNat l.length))] [] S' u w := by
      intro S' hS'
      refine x_go.run mn_A_add_2 6 ?_
      refine ⟨trivial, [xv_r (20 + j) a2, xv_i (Int32.ofNat l.length), xv_i (md + 1)], ?_, nl rfl, nl rfl, ?_⟩
      · rw [hS', x_up_ne (by omega)]
        exact b1
      · refine fin _ ?_
        rw [hS', ← z_suc]
        rfl
    refine x_go.run mn_A_add_2 4 ?_
    have key : ∀ ci, lcl j = ci → ∃ n' f' fs, S2 (20 + j) a2 = some (.inr (3, n', .inr (.inr f'))) ∧ S2 (lk j) p = some (.inl (ci, fs)) ∧ 20 + j < 48 ∧ lk j < 48 ∧ vp_in (Int32.ofNat l.length) n' ∧ x_go b_A_add_2 Q 15 [some (xv_r 6 j), some (xv_r (lk j) p), some (xv_r (20 + j) a2), some (xv_i (Int32.ofNat l.length))] [] (x_up S2 (20 + j) a2 (.inr (3, n', .inr (.inr (va_up f' (Int32.ofNat l.length).toNatClampNeg (some (lk j, p))))))) u w := by
      intro ci hci
      subst hci
      refine ⟨cap2, f2, lR j e, b2, hpS, by omega, by omega, z_in b3 (by omega), stepS _ ?_⟩
      rw [z_nat (by omega)]
    by_cases e5 : j = 5
    · exact Or.inr (key 7 (if_pos e5))
    · exact Or.inl (key 6 (if_neg e5))
  refine x_go.run mn_A_add_2 10 ?_
  refine ⟨_, _, _, h2', by decide, ?_⟩
  refine ⟨fun c => ?_, fun c => ?_⟩
  · have hne : l.length ≠ cap := fun z => c (by show Int32.ofNat l.length = Int32.ofNat cap; rw [z])
    have hk20 : k = 20 + j := by rcases h5 with ⟨-, -, z⟩ | ⟨z, -⟩ <;> omega
    have h10 : 10 ≤ cap := by rcases h5 with ⟨-, -, z⟩ | ⟨-, z⟩ <;> omega
    refine x_go.back mn_A_add_2 (store k a cap f S1 _ _ _ hk20 h1' h2' (by omega) h4 h10 (fun _ _ => rfl) (fun k' i' q1 _ => hS k' i' q1) hF1 (if_neg hne).symm fun S' d1 d2 d3 => ?_)
    exact ⟨Or.inr rfl, hP S' d1 d2 d3⟩
  · have he : l.length = cap := (z_eq (by omega) (by omega)).mp (Classical.not_not.mp c)
    obtain ⟨n, hn⟩ := hF1
    have hfr := (hn n (Nat.le_refl _)).2.2.2.2.2 j hj
    have hfull : full l cap = 1 := if_pos he
    rw [hfull, Nat.one_mul]
    refine ⟨nl rfl, ⟨_, h1'⟩, rfl, nl rfl, 1, gc cap, Nat.le_refl _, Nat.le_refl _, ?_⟩
    have h1'' : S1 6 j = some (.inl (8, [xv_r k a, xv_i (Int32.ofNat cap), xv_i (md + 1)])) := by rw [h1', he]
    refine c_grow (a' := n) hj h1'' h2' (by omega) h5 hfr (by rw [hS _ _ (by omega)]; exact h54) fun f' hf' => ?_
    have hgc : cap < gc cap ∧ gc cap ≤ 10000 ∧ 10 ≤ gc cap := by
      unfold gc
      rcases h5 with ⟨-, -, rfl⟩ | ⟨-, z⟩
      · decide
      · rw [if_neg (by omega)]
        omega
    refine x_go.back mn_A_add_2 (x_go.run mn_A_add_2 1 (store (20 + j) n (gc cap) f' _ _ _ _ rfl ?_ ?_ (by omega) hgc.2.1 hgc.2.2 (fun i hi => hf' i (by omega)) (fun k' i' q1 q2 => ?_) ?_ (if_pos he).symm fun S' d1 d2 d3 => ?_))
    · rw [x_up_self, he]
    · rw [x_up_ne (by omega), x_up_self]
    · rw [x_up_ne q1, x_up_ne (by omega)]
      exact hS k' i' q1
    · exact RF.up (RF.up ⟨n, hn⟩)
    · exact ⟨Or.inr rfl, hP S' d1 d2 d3⟩
