section SD
variable {S : XH} {P : XP} {b cap : Nat} {L : List Nat}
theorem c_sbinit (h : S 13 b = some (.inl (9, xD9))) (hF : RF S) (hP : ∀ S', BS S' b 16 [] → fb b S S' → RF S' → P (.inl none) S') : Y_ZStringBuilder_init 1 16 [xv_r 13 b] S P := by
  obtain ⟨nf, hnf⟩ := id hF
  have ha : S 14 nf = none := (hnf nf (Nat.le_refl _)).2.2.2.2.1
  refine x_go.run mn_ZStringBuilder_init 10 ?_
  refine ⟨rfl, nl rfl, 1, 16, Nat.le_refl _, Nat.le_refl _, ?_⟩
  refine x_go.run mn_ZAbstractStringBuilder_init 30 ?_
  refine ⟨nl rfl, ?_⟩
  refine ⟨fun c => absurd c (by decide), fun _ => ?_⟩
  refine ⟨by decide, by decide, nl rfl, nl rfl, 14, nf, by decide, ha, ?_⟩
  refine ⟨trivial, _, by rw [x_up_ne (by omega)]; exact h, nl rfl, nl rfl, ?_⟩
  refine ⟨(by decide : (0 : Int32).toInt8.toInt32 = 0), _, x_up_self _ _ _ _, nl rfl, nl rfl, ?_⟩
  refine hP _ ⟨nf, fun _ => 0, 0, ?_, ?_, by decide, fun j hj => absurd hj (Nat.not_lt_zero j), fun x hx => (by cases hx), fun j => (by decide : (-128 : Int32) ≤ 0 ∧ (0 : Int32) ≤ 127)⟩ (((fb.rf.up (Or.inr rfl)).up (Or.inl ⟨rfl, rfl⟩)).up (Or.inl ⟨rfl, rfl⟩)) hF.up.up.up
  · rw [x_up_self]
    rfl
  · rw [x_up_ne (by omega), x_up_ne (by omega), x_up_self]
    rfl
def tdig (i : Nat) : List Nat := (List.range 4).map fun j => (st_dg i j).toNatClampNeg
theorem tdig_len (i : Nat) : (tdig i).length = 4 := by simp [tdig]
theorem st_dg_ok {i : Nat} (hi : i < 6) : (∀ j, j < 4 → st_dg i j = bz (st_dg i j).toNatClampNeg ∧ (st_dg i j).toNatClampNeg < 256) ∧ ∀ j, j < 4 → -128 ≤ st_dg i j ∧ st_dg i j ≤ 127 := by
  rcases (show i = 0 ∨ i = 1 ∨ i = 2 ∨ i = 3 ∨ i = 4 ∨ i = 5 by omega) with rfl | rfl | rfl | rfl | rfl | rfl <;> decide +kernel
theorem c_coder {i : Nat} (h : S 51 i = some (.inl (22, [xv_r 52 i, xv_i 0]))) (hP : P (.inl (some (xv_i 0))) S) : Y_ZString_coder 0 0 [xv_r 51 i] S P := by
  refine x_go.run mn_ZString_coder 10 ?_
  refine ⟨fun c => absurd c (by decide), fun _ => ?_⟩
  refine ⟨by show ¬ 51 < 48; decide, _, _, h, rfl, ?_⟩
  exact ⟨rfl, hP⟩
theorem c_strlen {i : Nat} {z : XA} (h : S 51 i = some (.inl (22, [xv_r 52 i, xv_i 0]))) (h2 : S 52 i = some (.inr (2, 4, z))) (hP : P (.inl (some (xv_i 4))) S) : Y_ZString_length 0 0 [xv_r 51 i] S P := by
  refine x_go.run mn_ZString_length 10 ?_
  refine ⟨by show ¬ 51 < 48; decide, _, _, h, rfl, ?_⟩
  refine ⟨_, _, _, h2, by decide, ?_⟩
  refine ⟨by show ¬ 51 < 48; decide, by show 51 < 55; decide, ⟨_, h⟩, rfl, nl rfl, 0, 0, Nat.zero_le _, Nat.zero_le _, c_coder h ?_⟩
  exact hP
theorem c_ens0 {n : Nat} (h : BS S b cap L) (hc : cap ≤ 1000) (hl : n ≤ cap) (hF : RF S) (hP : ∀ S', BS S' b cap L → fb b S S' → RF S' → P (.inl none) S') : Y_ZAbstractStringBuilder_ensureCapacityInternal 0 0 [xv_r 13 b, xv_i (Int32.ofNat n)] S P := by
  have := c_ensure (P := P) (n := n) h hc (by omega) hF (by unfold cgn; rw [if_pos hl]; exact hP)
  unfold ec at this
  rw [if_pos hl, Nat.zero_mul] at this
  exact this
theorem c_getB {i n a : Nat} {f : Nat → Int32} (k51 : S 51 i = some (.inl (22, [xv_r 52 i, xv_i 0]))) (k52 : S 52 i = some (.inr (2, 4, .inl (st_dg i)))) (g2 : S 14 a = some (.inr (2, cap, .inl f))) (hi : i < 6) (hc : cap ≤ 1000) (hl : n + 4 ≤ cap) (hP : P (.inl none) (x_up S 14 a (.inr (2, cap, .inl (va_cpy (st_dg i) f 0 n 4))))) : Y_ZString_getBytes 0 0 [xv_r 51 i, xv_r 14 a, xv_i (Int32.ofNat n), xv_i 0] S P := by
  obtain ⟨d1, d2⟩ := st_dg_ok hi
  refine x_go.run mn_ZString_getBytes 30 ?_
  refine ⟨by show ¬ 51 < 48; decide, by show 51 < 55; decide, ⟨_, k51⟩, rfl, nl rfl, 0, 0, Nat.zero_le _, Nat.zero_le _, c_coder k51 ?_⟩
  refine ⟨fun c => (c rfl).elim, fun _ => ?_⟩
  refine ⟨by show ¬ 51 < 48; decide, _, _, k51, rfl, ?_⟩
  refine ⟨by show ¬ 51 < 48; decide, _, _, k51, rfl, ?_⟩
  refine ⟨_, _, _, k52, by decide, ?_⟩
  have es : (Int32.ofNat n <<< ((0 : Int32) &&& 31)).toNatClampNeg = n := by
    rw [z_shl0, z_nat (by omega)]
  refine ⟨nl rfl, 4, st_dg i, cap, f, k52, g2, nl rfl, by decide, ?_, by decide, by decide, ?_, fun j hj => ?_, ?_⟩
  · show ¬ Int32.ofNat n <<< ((0 : Int32) &&& 31) < 0
    rw [z_shl0]
    exact z_neg (by omega)
  · show (Int32.ofNat n <<< ((0 : Int32) &&& 31)).toNatClampNeg + 4 ≤ cap
    rw [es]
    exact hl
  · have hj : j < 4 := hj
    show -128 ≤ st_dg i (0 + j) ∧ st_dg i (0 + j) ≤ 127
    rw [Nat.zero_add]
    exact d2 j hj
  · rw [← es] at hP
    exact hP
theorem c_putS {i : Nat} (h : BS S b cap L) (hc : cap ≤ 1000) (hF : RF S) (hro : ro S) (hi : i < 6) (hl : L.length + 4 ≤ cap) (hP : ∀ (a : Nat) (f : Nat → Int32) (ml : Int32), S 13 b = some (.inl (9, [xv_r 14 a, xv_i 0, xv_i ml, xv_i (Int32.ofNat L.length)])) → (∀ j (h : j < L.length), f j = bz L[j]) → (∀ x ∈ L, x < 256) → (∀ j, -128 ≤ f j ∧ f j ≤ 127) → P (.inl none) (x_up S 14 a (.inr (2, cap, .inl (va_cpy (st_dg i) f 0 L.length 4))))) : Y_ZAbstractStringBuilder_putStringAt 0 0 [xv_r 13 b, xv_i (Int32.ofNat L.length), xv_r 51 i] S P := by
  obtain ⟨a, f, ml, g1, g2, g3, g4, g5, g6⟩ := id h
  have k51 := hro.2.2.1 i hi
  have k52 := hro.2.2.2.1 i hi
  refine x_go.run mn_ZAbstractStringBuilder_putStringAt 20 ?_
  refine ⟨nl rfl, ⟨_, g1⟩, rfl, nl rfl, 0, 0, Nat.zero_le _, Nat.zero_le _, ?_⟩
  refine x_go.run mn_ZAbstractStringBuilder_inflateIfNeededFor 12 ?_
  refine ⟨fun c => absurd c (by decide), fun _ => ?_⟩
  refine ⟨nl rfl, _, _, g1, rfl, ?_⟩
  refine ⟨by show ¬ 51 < 48; decide, by show 51 < 55; decide, ⟨_, k51⟩, rfl, nl rfl, 0, 0, Nat.zero_le _, Nat.zero_le _, c_coder k51 ?_⟩
  refine ⟨fun _ => ?_, fun c => (c rfl).elim⟩
  refine ⟨nl rfl, _, _, g1, rfl, ?_⟩
  refine ⟨nl rfl, _, _, g1, rfl, ?_⟩
  refine ⟨by show ¬ 51 < 48; decide, by show 51 < 55; decide, ⟨_, k51⟩, rfl, nl rfl, 0, 0, Nat.zero_le _, Nat.zero_le _, c_getB k51 k52 g2 hi hc hl ?_⟩
  exact hP a f ml g1 g4 g5 g6
theorem ro.fb {S' : XH} (h : ro S) (h' : fb b S S') : ro S' := h.of fun k hk => funext fun i => h' k i (by omega) (by omega)
set_option maxHeartbeats 1000000 in
/-- a TYPE's digits -/
theorem c_appS {i : Nat} (h : BS S b cap L) (hc : cap ≤ 1000) (hF : RF S) (hro : ro S) (hi : i < 6) (hl : L.length + 4 ≤ cap) (hP : ∀ S', BS S' b cap (L ++ tdig i) → fb b S S' → RF S' → P (.inl (some (xv_r 13 b))) S') : Y_ZStringBuilder_append 0 0 [xv_r 13 b, xv_r 51 i] S P := by
  obtain ⟨a, f, ml, q1, q2, q3, q4, q5, q6⟩ := id h
  have h51 := hro.2.2.1 i hi
  have h52 := hro.2.2.2.1 i hi
  obtain ⟨d1, d2⟩ := st_dg_ok hi
  refine x_go.run mn_ZStringBuilder_append 10 ?_
  refine ⟨nl rfl, ⟨_, q1⟩, rfl, nl rfl, 0, 0, Nat.zero_le _, Nat.zero_le _, ?_⟩
  refine x_go.run mn_ZAbstractStringBuilder_append 60 ?_
  refine ⟨by show ¬ 51 < 48; decide, by show 51 < 55; decide, ⟨_, h51⟩, rfl, nl rfl, 0, 0, Nat.zero_le _, Nat.zero_le _, c_strlen h51 h52 ?_⟩
  refine ⟨nl rfl, _, _, q1, rfl, ?_⟩
  refine ⟨nl rfl, ⟨_, q1⟩, rfl, nl rfl, 0, 0, Nat.zero_le _, Nat.zero_le _, ?_⟩
  show Y_ZAbstractStringBuilder_ensureCapacityInternal 0 0 [xv_r 13 b, xv_i (Int32.ofNat L.length + 4)] S _
  rw [show (4 : Int32) = Int32.ofNat 4 from rfl, z_add]
  refine c_ens0 h hc hl hF fun S1 h1 f1 r1 => ?_
  obtain ⟨a0, f0, ml0, g1, -⟩ := id h1
  refine ⟨nl rfl, _, _, g1, rfl, ?_⟩
  refine ⟨nl rfl, ⟨_, g1⟩, rfl, nl rfl, 0, 0, Nat.zero_le _, Nat.zero_le _, c_putS h1 hc r1 (hro.fb f1) hi hl fun a1 f1' ml1 g1 g4 g5 g6 => ?_⟩
  refine ⟨nl rfl, _, _, by rw [x_up_ne (by omega)]; exact g1, rfl, ?_⟩
  refine ⟨trivial, _, by rw [x_up_ne (by omega)]; exact g1, nl rfl, nl rfl, ?_⟩
  have el : (L ++ tdig i).length = L.length + 4 := by rw [List.length_append, tdig_len]
  refine hP _ ⟨a1, va_cpy (st_dg i) f1' 0 L.length 4, ml1, ?_, ?_, by rw [el]; exact hl, fun j hj => ?_, fun x hx => ?_, fun j => ?_⟩ ((f1.up (Or.inr rfl)).up (Or.inl ⟨rfl, rfl⟩)) r1.up.up
  · rw [x_up_self, el, ← z_add]
    rfl
  · rw [x_up_ne (by omega), x_up_self]
  · show (if L.length ≤ j ∧ j < L.length + 4 then st_dg i (0 + (j - L.length)) else f1' j) = _
    by_cases z : j < L.length
    · rw [if_neg (by omega), List.getElem_append_left z]
      exact g4 j z
    · rw [el] at hj
      rw [if_pos (by omega), List.getElem_append_right (by omega), Nat.zero_add]
      have : (tdig i)[j - L.length]'(by rw [tdig_len]; omega) = (st_dg i (j - L.length)).toNatClampNeg := by simp [tdig]
      rw [this]
      exact (d1 _ (by omega)).1
  · rcases List.mem_append.mp hx with z | z
    · exact g5 x z
    · obtain ⟨j, hj, rfl⟩ := List.mem_map.mp z
      exact (d1 j (List.mem_range.mp hj)).2
  · show -128 ≤ (if L.length ≤ j ∧ j < L.length + 4 then st_dg i (0 + (j - L.length)) else f1' j) ∧ (if L.length ≤ j ∧ j < L.length + 4 then st_dg i (0 + (j - L.length)) else f1' j) ≤ 127
    split
    · rw [Nat.zero_add]
      exact d2 _ (by omega)
    · exact g6 j
end SD
