theorem x_up_up (S : XH) (k i : Nat) (c c' : XC) : x_up (x_up S k i c) k i c' = x_up S k i c' := by
  funext k' i'
  unfold x_up
  split <;> rfl
theorem z_min (a b : Nat) (ha : a < 2147483648) (hb : b < 2147483648) : (if Int32.ofNat b < Int32.ofNat a then Int32.ofNat b else Int32.ofNat a) = Int32.ofNat (min a b) := by
  by_cases h : b < a
  · rw [if_pos ((z_lt hb ha).mpr h), Nat.min_eq_right (by omega)]
  · rw [if_neg (fun z => h ((z_lt hb ha).mp z)), Nat.min_eq_left (by omega)]
theorem z_half {n : Nat} (h : n ≤ 10000) : Int32.ofNat n >>> (1 &&& 31) = Int32.ofNat (n / 2) := by
  rw [← Int32.toBitVec_inj]
  show BitVec.sshiftRight' (BitVec.ofNat 32 n) ((1 &&& 31 : Int32).toBitVec.smod 32) = BitVec.ofNat 32 (n / 2)
  rw [show (1 &&& 31 : Int32).toBitVec.smod 32 = 1#32 by decide, BitVec.sshiftRight_eq', BitVec.sshiftRight_eq_of_msb_false]
  · apply BitVec.eq_of_toNat_eq
    have e1 : (BitVec.ofNat 32 n).toNat = n := by
      rw [BitVec.toNat_ofNat]
      exact Nat.mod_eq_of_lt (by omega)
    have e2 : (BitVec.ofNat 32 (n / 2)).toNat = n / 2 := by
      rw [BitVec.toNat_ofNat]
      exact Nat.mod_eq_of_lt (by omega)
    rw [BitVec.toNat_ushiftRight, e1, e2]
    show n >>> 1 = n / 2
    rw [Nat.shiftRight_eq_div_pow]
  · rw [BitVec.msb_eq_false_iff_two_mul_lt, BitVec.toNat_ofNat, Nat.mod_eq_of_lt (by omega)]
    omega
theorem c_newLength {S : XH} {P : XP} {cap : Nat} (h : cap ≤ 6000) (h' : 2 ≤ cap) (hP : P (.inl (some (xv_i (Int32.ofNat (cap + cap / 2))))) S) : Y_ZArraysSupport_newLength 0 0 [xv_i (Int32.ofNat cap), xv_i 1, xv_i (Int32.ofNat (cap / 2))] S P := by
  have e1 : (if (1 : Int32) < Int32.ofNat (cap / 2) then Int32.ofNat (cap / 2) else 1) = Int32.ofNat (cap / 2) := by
    by_cases z : cap / 2 = 1
    · rw [z]
      rfl
    · rw [if_pos (show (1 : Int32) < Int32.ofNat (cap / 2) from (z_lt (a := 1) (by decide) (by omega)).mpr (by omega))]
  refine x_go.run mn_ZArraysSupport_newLength 6 ?_
  refine ⟨nl rfl, ?_⟩
  show x_go b_ZArraysSupport_newLength P 8 [some (xv_i (Int32.ofNat cap)), some (xv_i 1), some (xv_i (Int32.ofNat (cap / 2))), some (xv_i (Int32.ofNat cap + (if (1 : Int32) < Int32.ofNat (cap / 2) then Int32.ofNat (cap / 2) else 1)))] [] S 0 0
  rw [e1, z_add]
  refine x_go.run mn_ZArraysSupport_newLength 10 ?_
  refine ⟨fun c => ?_, fun _ => ⟨fun c => ?_, fun _ => hP⟩⟩
  · have := (z_le (b := 0) (by omega) (by decide)).mp c
    omega
  · have := (z_lt (a := 2147483639) (by decide) (by omega)).mp c
    omega
/-- the array's first n places hold entries, messages or null -/
def el6 (S : XH) (f : Nat → Option (Nat × Nat)) (n : Nat) : Prop := ∀ i, i < n → ∀ q, f i = some q → q.1 < 15 ∧ 10 ≤ q.1 ∧ ∃ ci fs, (ci = 6 ∨ ci = 7) ∧ S q.1 q.2 = some (.inl (ci, fs))
theorem el6.up {S : XH} {f : Nat → Option (Nat × Nat)} {n k a : Nat} {c : XC} (h : el6 S f n) (hk : k < 10 ∨ 15 ≤ k) : el6 (x_up S k a c) f n := fun i hi q hq => by
  obtain ⟨h1, h2, ci, fs, h3, h4⟩ := h i hi q hq
  exact ⟨h1, h2, ci, fs, h3, by rw [x_up_ne (by omega)]; exact h4⟩
theorem el6.use {S : XH} {f : Nat → Option (Nat × Nat)} {n sp m : Nat} (h : el6 S f n) (hm : sp + m ≤ n) : x_elO S f sp m := fun i hi q hq => by
  obtain ⟨h1, -, h2⟩ := h (sp + i) (by omega) q hq
  exact ⟨by omega, h2⟩
theorem c_copyOf {S : XH} {P : XP} {j a cap cap' a' : Nat} {f : Nat → Option (Nat × Nat)} (hj : j < 10) (h2 : S (20 + j) a = some (.inr (3, cap, .inr (.inr f)))) (h3 : cap ≤ cap') (h4 : cap' ≤ 9000) (h10 : 10 ≤ cap) (ha : S (20 + j) a' = none) (h55 : S 55 0 ≠ none) (hel : el6 S f cap)
    (hP : ∀ f', (∀ i, i < cap → f' i = f i) → P (.inl (some (xv_r (20 + j) a'))) (x_up S (20 + j) a' (.inr (3, cap', .inr (.inr f'))))) : Y_ZArrays_copyOf 1 cap' [xv_r (20 + j) a, xv_i (Int32.ofNat cap')] S P := by
  have hne : a ≠ a' := by
    rintro rfl
    rw [ha] at h2
    cases h2
  refine x_go.run mn_ZArrays_copyOf 6 ?_
  refine ⟨nl rfl, by simp; omega, h55, _, _, h2, ?_⟩
  refine ⟨nl rfl, rfl, nl rfl, 1, cap', Nat.le_refl _, Nat.le_refl _, ?_⟩
  refine x_go.run mn_ZArrays_copyOf_2 30 ?_
  refine ⟨h55, ?_⟩
  refine ⟨Or.inr (Or.inr ⟨rfl, Or.inr (Or.inr (Or.inr rfl))⟩), fun c => (c rfl).elim, fun _ => ?_⟩
  refine ⟨z_neg (by omega), ?_, nl rfl, by rw [z_nat (by omega)]; exact Nat.le_refl _, 20 + j, a', by omega, ha, ?_⟩
  · rw [z_nat (by omega)]
    omega
  rw [z_nat (by omega)]
  have h2' : x_up S (20 + j) a' (.inr (3, cap', .inr (.inr (fun _ => none)))) (20 + j) a = some (.inr (3, cap, .inr (.inr f))) := by
    rw [x_up_ne (by omega)]
    exact h2
  refine x_go.back mn_ZArrays_copyOf_2 (x_go.run mn_ZArrays_copyOf_2 14 ?_)
  refine ⟨_, _, _, h2', by decide, nl rfl, ?_⟩
  have en : (if Int32.ofNat cap' < Int32.ofNat cap then Int32.ofNat cap' else Int32.ofNat cap) = Int32.ofNat cap := by
    rw [z_min _ _ (by omega) (by omega), Nat.min_eq_left h3]
  have ec : Int32.toNatClampNeg (if Int32.ofNat cap' < Int32.ofNat cap then Int32.ofNat cap' else Int32.ofNat cap) = cap := by
    rw [en, z_nat (by omega)]
  refine ⟨nl rfl, cap, f, cap', fun _ => none, h2', x_up_self _ _ _ _, by simp; omega, by simp; omega, by decide, by decide, ?_, ?_, ?_, ?_, ?_⟩
  · show ¬ (if Int32.ofNat cap' < Int32.ofNat cap then Int32.ofNat cap' else Int32.ofNat cap) < 0
    rw [en]
    exact z_neg (by omega)
  · show 0 + Int32.toNatClampNeg (if Int32.ofNat cap' < Int32.ofNat cap then Int32.ofNat cap' else Int32.ofNat cap) ≤ cap
    rw [ec]
    omega
  · show 0 + Int32.toNatClampNeg (if Int32.ofNat cap' < Int32.ofNat cap then Int32.ofNat cap' else Int32.ofNat cap) ≤ cap'
    rw [ec]
    omega
  · show x_elO _ f 0 (Int32.toNatClampNeg (if Int32.ofNat cap' < Int32.ofNat cap then Int32.ofNat cap' else Int32.ofNat cap))
    rw [ec]
    exact (hel.up (Or.inr (by omega))).use (by omega)
  · have kk := hP (va_cpy f (fun _ => none) 0 0 cap) fun i hi => by
      show (if 0 ≤ i ∧ i < 0 + cap then f (0 + (i - 0)) else none) = f i
      rw [if_pos (by omega)]
      congr 1
      omega
    rw [← x_up_up _ _ _ (.inr (3, cap', .inr (.inr (fun _ => none)))), ← ec] at kk
    exact kk
theorem c_grow {S : XH} {P : XP} {j k a cap a' : Nat} {f : Nat → Option (Nat × Nat)} {md : Int32} (hj : j < 10) (h1 : S 6 j = some (.inl (8, [xv_r k a, xv_i (Int32.ofNat cap), xv_i md]))) (h2 : S k a = some (.inr (3, cap, .inr (.inr f)))) (h4 : cap ≤ 6000) (h5 : (k = 54 ∧ a = 0 ∧ cap = 0) ∨ (k = 20 + j ∧ 10 ≤ cap)) (ha : S (20 + j) a' = none) (h54 : rk S) (hel : el6 S f cap)
    (hP : ∀ f', (∀ i, i < cap → f' i = f i) → P (.inl (some (xv_r (20 + j) a'))) (x_up (x_up S (20 + j) a' (.inr (3, gc cap, .inr (.inr f')))) 6 j (.inl (8, [xv_r (20 + j) a', xv_i (Int32.ofNat cap), xv_i md])))) : Y_A_grow 1 (gc cap) [xv_r 6 j] S P := by
  refine x_go.run mn_A_grow 10 ?_
  refine ⟨nl rfl, _, _, h1, rfl, ?_⟩
  refine ⟨nl rfl, ⟨_, h1⟩, rfl, nl rfl, 1, gc cap, nl rfl, Nat.le_refl _, ?_⟩
  refine x_go.run mn_A_grow_2 60 ?_
  refine ⟨nl rfl, _, _, h1, rfl, ?_⟩
  refine ⟨_, _, _, h2, by decide, ?_⟩
  rcases h5 with ⟨rfl, rfl, rfl⟩ | ⟨rfl, h10⟩
  · refine ⟨fun c => absurd c (by decide), fun _ => ?_⟩
    refine ⟨nl rfl, _, _, h1, rfl, ?_⟩
    refine ⟨Or.inr (Or.inr ⟨rfl, Or.inr (Or.inr (Or.inl rfl))⟩), fun _ => ?_, fun c => (c rfl).elim⟩
    refine ⟨nl rfl, ?_⟩
    refine ⟨by decide, by decide, nl rfl, nl rfl, 20 + j, a', by omega, ha, ?_⟩
    refine ⟨trivial, _, by rw [x_up_ne (by omega)]; exact h1, nl rfl, nl rfl, ?_⟩
    exact hP _ fun i hi => by omega
  · refine ⟨fun _ => ?_, fun c => (c ?_).elim⟩
    · have egc : gc cap = cap + cap / 2 := if_neg (by omega)
      have esh : Int32.ofNat cap >>> (1 &&& 31) = Int32.ofNat (cap / 2) := z_half (by omega)
      have e1 : Int32.ofNat cap + 1 - Int32.ofNat cap = 1 := by
        rw [z_suc, z_sub (by omega), show cap + 1 - cap = 1 by omega]
        rfl
      refine ⟨nl rfl, rfl, nl rfl, 0, 0, Nat.zero_le _, Nat.zero_le _, ?_⟩
      show Y_ZArraysSupport_newLength 0 0 [xv_i (Int32.ofNat cap), xv_i (Int32.ofNat cap + 1 - Int32.ofNat cap), xv_i (Int32.ofNat cap >>> (1 &&& 31))] S _
      rw [esh, e1]
      refine c_newLength (by omega) (by omega) ?_
      rw [← egc]
      refine ⟨nl rfl, _, _, h1, rfl, ?_⟩
      refine ⟨nl rfl, rfl, nl rfl, 1, gc cap, nl rfl, Nat.le_refl _, ?_⟩
      refine c_copyOf (a' := a') hj h2 (by omega) (by omega) h10 ha h54.2 hel fun f' hf' => ?_
      refine ⟨trivial, _, by rw [x_up_ne (by omega)]; exact h1, nl rfl, nl rfl, ?_⟩
      exact hP f' hf'
    · have := (z_lt (a := 0) (b := cap) (by decide) (by omega)).mpr (by omega)
      exact this
/-- behind a list's change -/
def laft (j : Nat) (S S' : XH) : Prop := ∀ k i, ¬ (k = 6 ∧ i = j) → k ≠ 20 + j → S' k i = S k i
def full (l : List R6) (cap : Nat) : Nat := if l.length = cap then 1 else 0
theorem c_add {S : XH} {P : XP} {j cap p : Nat} {l : List R6} {e : R6} (h : LO S j cap l) (hj : j < 10) (hp : S (lk j) p = some (.inl (lcl j, lR j e))) (hc : l.length ≤ 6000) (hF : RF S) (h54 : rk S)
    (hP : ∀ S', LO S' j (if l.length = cap then gc cap else cap) (l ++ [e]) → laft j S S' → RF S' → P (.inl (some (xv_i 1))) S') : Y_A_add (full l cap) (full l cap * gc cap) [xv_r 6 j, xv_r (lk j) p] S P := by
  have hlk : lk j < 15 ∧ 10 ≤ lk j := by
    unfold lk
    split <;> decide
  obtain ⟨k, a, f, md, h1, h2, h3, h4, h5, h6⟩ := h
  refine x_go.run mn_A_add 20 ?_
  refine ⟨nl rfl, _, _, h1, rfl, ?_⟩
  refine ⟨trivial, _, h1, nl rfl, nl rfl, ?_⟩
  have h1' : x_up S 6 j (.inl (8, [xv_r k a, xv_i (Int32.ofNat l.length), xv_i (md + 1)])) 6 j = some (.inl (8, [xv_r k a, xv_i (Int32.ofNat l.length), xv_i (md + 1)])) := x_up_self _ _ _ _
  have hS : ∀ k' i', ¬ (k' = 6 ∧ i' = j) → x_up S 6 j (.inl (8, [xv_r k a, xv_i (Int32.ofNat l.length), xv_i (md + 1)])) k' i' = S k' i' := fun k' i' q => x_up_ne q
  have hF1 : RF (x_up S 6 j (.inl (8, [xv_r k a, xv_i (Int32.ofNat l.length), xv_i (md + 1)]))) := hF.up
  show x_run b_A_add P (x_go b_A_add P) 14 10 [some (xv_r 6 j), some (xv_r (lk j) p)] [] (x_up S 6 j (.inl (8, [xv_r k a, xv_i (Int32.ofNat l.length), xv_i (md + 1)]))) (full l cap) (full l cap * gc cap)
  generalize x_up S 6 j (.inl (8, [xv_r k a, xv_i (Int32.ofNat l.length), xv_i (md + 1)])) = S1 at h1' hS hF1 ⊢
  have hk6 : ¬ (k = 6 ∧ a = j) := by rcases h5 with ⟨rfl, -⟩ | ⟨rfl, -⟩ <;> omega
  have h2' : S1 k a = some (.inr (3, cap, .inr (.inr f))) := by rw [hS k a hk6]; exact h2
  have hp' : S1 (lk j) p = some (.inl (lcl j, lR j e)) := by rw [hS _ _ (by omega)]; exact hp
  refine ⟨nl rfl, _, _, h1', rfl, ?_⟩
  refine ⟨nl rfl, _, _, h1', rfl, ?_⟩
  refine ⟨nl rfl, ⟨_, h1'⟩, rfl, nl rfl, full l cap, full l cap * gc cap, Nat.le_refl _, Nat.le_refl _, ?_⟩
  -- the store, in an array with room
  have store : ∀ (k2 a2 cap2 : Nat) (f2 : Nat → Option (Nat × Nat)) (S2 : XH) (u w : Nat) (Q : XP), k2 = 20 + j → S2 6 j = some (.inl (8, [xv_r k2 a2, xv_i (Int32.ofNat l.length), xv_i (md + 1)])) → S2 k2 a2 = some (.inr (3, cap2, .inr (.inr f2))) → l.length < cap2 → cap2 ≤ 10000 → 10 ≤ cap2 → (∀ i, i < l.length → f2 i = f i) → (∀ k' i', ¬ (k' = 6 ∧ i' = j) → k' ≠ 20 + j → S2 k' i' = S k' i') → RF S2 → cap2 = (if l.length = cap then gc cap else cap) →
      (∀ S', LO S' j (if l.length = cap then gc cap else cap) (l ++ [e]) → laft j S S' → RF S' → Q (.inl none) S') →
      x_go b_A_add_2 Q 11 [some (xv_r 6 j), some (xv_r (lk j) p), some (xv_r k2 a2), some (xv_i (Int32.ofNat l.length))] [] S2 u w := by
    intro k2 a2 cap2 f2 S2 u w Q hk2 b1 b2 b3 b4 b4' b5 b6 b7 b8 hQ
    subst hk2
    have hpS : S2 (lk j) p = some (.inl (lcl j, lR j e)) := by rw [b6 _ _ (by omega) (by omega)]; exact hp
    have fin : ∀ S', S' = x_up (x_up S2 (20 + j) a2 (.inr (3, cap2, .inr (.inr (va_up f2 l.length (some (lk j, p))))))) 6 j (.inl (8, [xv_r (20 + j) a2, xv_i (Int32.ofNat (l.length + 1)), xv_i (md + 1)])) → Q (.inl none) S' := by
      intro S' hS'
      subst hS'
      refine hQ _ ⟨20 + j, a2, va_up f2 l.length (some (lk j, p)), md + 1, ?_, ?_, ?_, ?_, Or.inr ⟨rfl, ?_⟩, fun i hi => ?_⟩ (fun k' i' q1 q2 => ?_) (b7.up.up)
      · rw [x_up_self, List.length_append]
        rfl
      · rw [x_up_ne (by omega), x_up_self, b8]
      · rw [List.length_append, ← b8]
        exact b3
      · rw [← b8]
        exact b4
      · rw [← b8]
        exact b4'
      · have hne : ∀ z, ¬ (lk j = 6 ∧ z = j) ∧ ¬ (lk j = 20 + j ∧ z = a2) := fun z => by omega
        by_cases ei : i = l.length
        · subst ei
          refine ⟨p, va_up_self _ _ _, ?_⟩
          rw [x_up_ne (hne p).1, x_up_ne (hne p).2, List.getElem_concat_length rfl]
          exact hpS
        · have hi' : i < l.length := by
            rw [List.length_append] at hi
            change i < _ + 1 at hi
            omega
          obtain ⟨p2, r1, r2⟩ := h6 i hi'
          refine ⟨p2, ?_, ?_⟩
          · rw [va_up_ne _ _ ei, b5 i hi']
            exact r1
          · rw [x_up_ne (hne p2).1, x_up_ne (hne p2).2, List.getElem_append_left hi', b6 _ _ (by omega) (by omega)]
            exact r2
      · rw [x_up_ne q1, x_up_ne (by omega)]
        exact b6 k' i' q1 q2
    have stepS : ∀ S', S' = x_up S2 (20 + j) a2 (.inr (3, cap2, .inr (.inr (va_up f2 l.length (some (lk j, p)))))) → x_go b_A_add_2 Q 15 [some (xv_r 6 j), some (xv_r (lk j) p), some (xv_r (20 + j) a2), some (xv_i (Int32.ofNat l.length))] [] S' u w := by
      intro S' hS'
      refine x_go.run mn_A_add_2 6 ?_
      refine ⟨trivial, [xv_r (20 + j) a2, xv_i (Int32.ofNat l.length), xv_i (md + 1)], ?_, nl rfl, nl rfl, ?_⟩
      · rw [hS', x_up_ne (by omega)]
        exact b1
      · refine fin _ ?_
        rw [hS', ← z_suc]
        rfl
    refine x_go.run mn_A_add_2 4 ?_
    have key : ∀ ci, lcl j = ci → ∃ n' f' fs, S2 (20 + j) a2 = some (.inr (3, n', .inr (.inr f'))) ∧ S2 (lk j) p = some (.inl (ci, fs)) ∧ 20 + j < 48 ∧ lk j < 48 ∧ vp_in (Int32.ofNat l.length) n' ∧ x_go b_A_add_2 Q 15 [some (xv_r 6 j), some (xv_r (lk j) p), some (xv_r (20 + j) a2), some (xv_i (Int32.ofNat l.length))] [] (x_up S2 (20 + j) a2 (.inr (3, n', .inr (.inr (va_up f' (Int32.ofNat l.length).toNatClampNeg (some (lk j, p))))))) u w := by
      intro ci hci
      subst hci
      refine ⟨cap2, f2, lR j e, b2, hpS, by omega, by omega, z_in b3 (by omega), stepS _ ?_⟩
      rw [z_nat (by omega)]
    by_cases e5 : j = 5
    · exact Or.inr (Or.inl (key 7 (if_pos e5)))
    · exact Or.inl (key 6 (if_neg e5))
  refine x_go.run mn_A_add_2 10 ?_
  refine ⟨_, _, _, h2', by decide, ?_⟩
  refine ⟨fun c => ?_, fun c => ?_⟩
  · have hne : l.length ≠ cap := fun z => c (by show Int32.ofNat l.length = Int32.ofNat cap; rw [z])
    have hk20 : k = 20 + j := by rcases h5 with ⟨-, -, z⟩ | ⟨z, -⟩ <;> omega
    have h10 : 10 ≤ cap := by rcases h5 with ⟨-, -, z⟩ | ⟨-, z⟩ <;> omega
    refine x_go.back mn_A_add_2 (store k a cap f S1 _ _ _ hk20 h1' h2' (by omega) h4 h10 (fun _ _ => rfl) (fun k' i' q1 _ => hS k' i' q1) hF1 (if_neg hne).symm fun S' d1 d2 d3 => ?_)
    exact ⟨Or.inr rfl, hP S' d1 d2 d3⟩
  · have he : l.length = cap := (z_eq (by omega) (by omega)).mp (Classical.not_not.mp c)
    obtain ⟨n, hn⟩ := hF1
    have hfr := (hn n (Nat.le_refl _)).2.2.2.2.2 j hj
    have hfull : full l cap = 1 := if_pos he
    rw [hfull, Nat.one_mul]
    refine ⟨nl rfl, ⟨_, h1'⟩, rfl, nl rfl, 1, gc cap, Nat.le_refl _, Nat.le_refl _, ?_⟩
    have h1'' : S1 6 j = some (.inl (8, [xv_r k a, xv_i (Int32.ofNat cap), xv_i (md + 1)])) := by rw [h1', he]
    have hel : el6 S1 f cap := by
      intro i hi q hq
      obtain ⟨p2, r1, r2⟩ := h6 i (by omega)
      rw [r1] at hq
      cases hq
      refine ⟨hlk.1, hlk.2, lcl j, lR j (l[i]'(by omega)), ?_, by rw [hS _ _ (by omega)]; exact r2⟩
      unfold lcl
      split
      · exact Or.inr rfl
      · exact Or.inl rfl
    refine c_grow (a' := n) hj h1'' h2' (by omega) h5 hfr ⟨by rw [hS _ _ (by omega)]; exact h54.1, by rw [hS _ _ (by omega)]; exact h54.2⟩ hel fun f' hf' => ?_
    have hgc : cap < gc cap ∧ gc cap ≤ 10000 ∧ 10 ≤ gc cap := by
      unfold gc
      rcases h5 with ⟨-, -, rfl⟩ | ⟨-, z⟩
      · decide
      · rw [if_neg (by omega)]
        omega
    refine x_go.back mn_A_add_2 (x_go.run mn_A_add_2 1 (store (20 + j) n (gc cap) f' _ _ _ _ rfl ?_ ?_ (by omega) hgc.2.1 hgc.2.2 (fun i hi => hf' i (by omega)) (fun k' i' q1 q2 => ?_) ?_ (if_pos he).symm fun S' d1 d2 d3 => ?_))
    · rw [x_up_self, he]
    · rw [x_up_ne (by omega), x_up_self]
    · rw [x_up_ne q1, x_up_ne (by omega)]
      exact hS k' i' q1
    · exact RF.up (RF.up ⟨n, hn⟩)
    · exact ⟨Or.inr rfl, hP S' d1 d2 d3⟩
