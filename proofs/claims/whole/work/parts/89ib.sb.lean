section SC
variable {S : XH} {P : XP} {b cap : Nat} {L : List Nat}
set_option maxHeartbeats 1000000 in
/-- a letter more -/
theorem c_app1 {c : Nat} (h : BS S b cap L) (hc : cap ≤ 1000) (hF : RF S) (hcc : c < 256) (hP : ∀ S', BS S' b (cgn cap (L.length + 1)) (L ++ [c]) → fb b S S' → RF S' → P (.inl (some (xv_r 13 b))) S') : Y_ZStringBuilder_append_2 (ec cap (L.length + 1)) (ec cap (L.length + 1) * (cap + cap + 2)) [xv_r 13 b, xv_i (Int32.ofNat c)] S P := by
  obtain ⟨a, f, ml, q1, q2, q3, q4, q5, q6⟩ := id h
  refine x_go.run mn_ZStringBuilder_append_2 10 ?_
  refine ⟨nl rfl, ⟨_, q1⟩, rfl, nl rfl, ec cap (L.length + 1), ec cap (L.length + 1) * (cap + cap + 2), Nat.le_refl _, Nat.le_refl _, ?_⟩
  refine x_go.run mn_ZAbstractStringBuilder_append_2 80 ?_
  refine ⟨nl rfl, _, _, q1, rfl, ?_⟩
  refine ⟨nl rfl, ⟨_, q1⟩, rfl, nl rfl, ec cap (L.length + 1), ec cap (L.length + 1) * (cap + cap + 2), Nat.le_refl _, Nat.le_refl _, ?_⟩
  show Y_ZAbstractStringBuilder_ensureCapacityInternal (ec cap (L.length + 1)) (ec cap (L.length + 1) * (cap + cap + 2)) [xv_r 13 b, xv_i (Int32.ofNat L.length + 1)] S _
  rw [z_suc]
  refine c_ensure h hc (by omega) hF fun S1 h1 f1 r1 => ?_
  have hcap : L.length + 1 ≤ cgn cap (L.length + 1) := by
    unfold cgn
    split <;> omega
  have hcap2 : cgn cap (L.length + 1) ≤ 3000 := by
    unfold cgn
    split <;> omega
  generalize cgn cap (L.length + 1) = cap1 at h1 hcap hcap2 hP
  obtain ⟨a1, f1', ml1, g1, g2, g3, g4, g5, g6⟩ := id h1
  refine ⟨nl rfl, ⟨_, g1⟩, rfl, nl rfl, 0, 0, Nat.zero_le _, Nat.zero_le _, c_latin h1 ?_⟩
  refine ⟨fun z => absurd z (by decide), fun _ => ?_⟩
  refine ⟨nl rfl, rfl, nl rfl, 0, 0, Nat.zero_le _, Nat.zero_le _, c_enc hcc ?_⟩
  refine ⟨fun z => absurd z (by decide), fun _ => ?_⟩
  refine ⟨nl rfl, _, _, g1, rfl, ?_⟩
  refine ⟨nl rfl, _, _, g1, rfl, ?_⟩
  refine ⟨trivial, _, g1, nl rfl, nl rfl, ?_⟩
  refine ⟨_, _, by rw [x_up_ne (by omega)]; exact g2, nl rfl, z_in (by omega) (by omega), ?_⟩
  rw [z_nat (by omega)]
  have fin : ∀ S2, S2 = x_up (x_up S1 13 b (.inl (9, [xv_r 14 a1, xv_i 0, xv_i ml1, xv_i (Int32.ofNat L.length + 1)]))) 14 a1 (.inr (2, cap1, .inl (upd f1' L.length (Int32.ofNat c).toInt8.toInt32.toInt8.toInt32))) → P (.inl (some (xv_r 13 b))) S2 := by
    intro S2 hS2
    have e0 : (L ++ [c]).set L.length c = L ++ [c] := by
      rw [List.set_append_right _ _ (Nat.le_refl _), Nat.sub_self]
      rfl
    refine hP S2 ?_ (by rw [hS2]; exact (f1.up (Or.inl ⟨rfl, rfl⟩)).up (Or.inr rfl)) (by rw [hS2]; exact r1.up.up)
    rw [← e0]
    refine BS.put (a := a1) (f := f1') (ml := ml1) (i := L.length) ?_ (by rw [List.length_append]; exact hcap) (fun j hj hne => ?_) (fun x hx => ?_) g6 hcc ?_
    · rw [hS2, x_up_ne (by omega), x_up_self, List.length_set, List.length_append, z_suc]
      rfl
    · have hj' : j < L.length := by
        rw [List.length_append] at hj
        change j < _ + 1 at hj
        omega
      rw [List.getElem_append_left hj']
      exact g4 j hj'
    · rcases List.mem_append.mp hx with z | z
      · exact g5 x z
      · rw [List.mem_singleton.mp z]
        exact hcc
    · rw [hS2, x_up_self, bz_bz]
      rfl
  exact fin _ rfl
theorem c_app0 {c : Nat} (h : BS S b cap L) (hc : cap ≤ 1000) (hF : RF S) (hcc : c < 256) (hl : L.length + 1 ≤ cap) (hP : ∀ S', BS S' b cap (L ++ [c]) → fb b S S' → RF S' → P (.inl (some (xv_r 13 b))) S') : Y_ZStringBuilder_append_2 0 0 [xv_r 13 b, xv_i (Int32.ofNat c)] S P := by
  have := c_app1 (P := P) h hc hF hcc (by unfold cgn; rw [if_pos hl]; exact hP)
  unfold ec at this
  rw [if_pos hl, Nat.zero_mul] at this
  exact this
theorem c_sblen (h : BS S b cap L) (hP : P (.inl (some (xv_i (Int32.ofNat L.length)))) S) : Y_ZStringBuilder_length 0 0 [xv_r 13 b] S P := by
  obtain ⟨a, f, ml, q1, -⟩ := h
  refine x_go.run mn_ZStringBuilder_length 10 ?_
  refine ⟨nl rfl, ⟨_, q1⟩, rfl, nl rfl, 0, 0, Nat.zero_le _, Nat.zero_le _, ?_⟩
  refine x_go.run mn_ZAbstractStringBuilder_length 10 ?_
  refine ⟨nl rfl, _, _, q1, rfl, ?_⟩
  exact hP
theorem c_sidx {i n : Nat} (hi : i < n) (hn : n < 2147483648) (hP : P (.inl none) S) : Y_ZString_checkIndex 0 0 [xv_i (Int32.ofNat i), xv_i (Int32.ofNat n)] S P := by
  refine x_go.run mn_ZString_checkIndex 10 ?_
  refine ⟨⟨nl rfl, rfl, nl rfl, 0, 0, Nat.zero_le _, Nat.zero_le _, ?_⟩, fun _ => ⟨nl rfl, rfl, nl rfl, 0, 0, Nat.zero_le _, Nat.zero_le _, ?_⟩⟩
  · refine x_go.run mn_ZPreconditions_checkIndex 10 ?_
    refine ⟨fun c => (z_neg (by omega) c).elim, fun _ => ⟨fun _ => hP, fun c => ?_⟩⟩
    exact (c ((z_lt (by omega) (by omega)).mpr hi)).elim
  · refine x_go.run mn_ZPreconditions_checkIndex 10 ?_
    refine ⟨fun c => (z_neg (by omega) c).elim, fun _ => ⟨fun _ => hP, fun c => ?_⟩⟩
    exact (c ((z_lt (by omega) (by omega)).mpr hi)).elim
theorem c_setc {i c : Nat} (h : BS S b cap L) (hc : cap ≤ 3000) (hF : RF S) (hi : i < L.length) (hcc : c < 256) (hP : ∀ S', BS S' b cap (L.set i c) → fb b S S' → RF S' → P (.inl none) S') : Y_ZStringBuilder_setCharAt 0 0 [xv_r 13 b, xv_i (Int32.ofNat i), xv_i (Int32.ofNat c)] S P := by
  obtain ⟨a, f, ml, q1, q2, q3, q4, q5, q6⟩ := id h
  refine x_go.run mn_ZStringBuilder_setCharAt 10 ?_
  refine ⟨nl rfl, ⟨_, q1⟩, rfl, nl rfl, 0, 0, Nat.zero_le _, Nat.zero_le _, ?_⟩
  refine x_go.run mn_ZAbstractStringBuilder_setCharAt 40 ?_
  refine ⟨nl rfl, _, _, q1, rfl, ?_⟩
  refine ⟨nl rfl, rfl, nl rfl, 0, 0, Nat.zero_le _, Nat.zero_le _, c_sidx hi (by omega) ?_⟩
  refine ⟨nl rfl, ⟨_, q1⟩, rfl, nl rfl, 0, 0, Nat.zero_le _, Nat.zero_le _, c_latin h ?_⟩
  refine ⟨fun z => absurd z (by decide), fun _ => ?_⟩
  refine ⟨nl rfl, rfl, nl rfl, 0, 0, Nat.zero_le _, Nat.zero_le _, c_enc hcc ?_⟩
  refine ⟨fun z => absurd z (by decide), fun _ => ?_⟩
  refine ⟨nl rfl, _, _, q1, rfl, ?_⟩
  refine ⟨_, _, q2, nl rfl, z_in (by omega) (by omega), ?_⟩
  rw [z_nat (by omega)]
  have fin : ∀ S2, S2 = x_up S 14 a (.inr (2, cap, .inl (upd f i (Int32.ofNat c).toInt8.toInt32.toInt8.toInt32))) → P (.inl none) S2 := by
    intro S2 hS2
    refine hP S2 (BS.put (a := a) (f := f) (ml := ml) (i := i) ?_ q3 (fun j hj _ => q4 j hj) q5 q6 hcc ?_) (by rw [hS2]; exact fb.rf.up (Or.inr rfl)) (by rw [hS2]; exact hF.up)
    · rw [hS2, x_up_ne (by omega), List.length_set]
      exact q1
    · rw [hS2, x_up_self, bz_bz]
      rfl
  exact fin _ rfl
theorem c_charAt {i : Nat} (h : BS S b cap L) (hc : cap ≤ 3000) (hi : i < L.length) (hP : P (.inl (some (xv_i (Int32.ofNat L[i])))) S) : Y_ZStringBuilder_charAt 0 0 [xv_r 13 b, xv_i (Int32.ofNat i)] S P := by
  obtain ⟨a, f, ml, q1, q2, q3, q4, q5, q6⟩ := id h
  have hx : L[i] < 256 := q5 _ (List.getElem_mem hi)
  refine x_go.run mn_ZStringBuilder_charAt 10 ?_
  refine ⟨nl rfl, ⟨_, q1⟩, rfl, nl rfl, 0, 0, Nat.zero_le _, Nat.zero_le _, ?_⟩
  refine x_go.run mn_ZAbstractStringBuilder_charAt 60 ?_
  refine ⟨nl rfl, _, _, q1, rfl, ?_⟩
  refine ⟨nl rfl, _, _, q1, rfl, ?_⟩
  refine ⟨nl rfl, _, _, q1, rfl, ?_⟩
  refine ⟨_, _, _, q2, by decide, ?_⟩
  have en : (if Int32.ofNat cap >>> ((0 : Int32) &&& 31) < Int32.ofNat L.length then Int32.ofNat cap >>> ((0 : Int32) &&& 31) else Int32.ofNat L.length) = Int32.ofNat L.length := by
    rw [z_shr0, z_min _ _ (by omega) (by omega), Nat.min_eq_left q3]
  refine ⟨nl rfl, ?_⟩
  refine ⟨nl rfl, rfl, nl rfl, 0, 0, Nat.zero_le _, Nat.zero_le _, ?_⟩
  show Y_ZString_checkIndex 0 0 [xv_i (Int32.ofNat i), xv_i (if Int32.ofNat cap >>> ((0 : Int32) &&& 31) < Int32.ofNat L.length then Int32.ofNat cap >>> ((0 : Int32) &&& 31) else Int32.ofNat L.length)] S _
  rw [en]
  refine c_sidx hi (by omega) ?_
  refine ⟨fun z => (z rfl).elim, fun _ => ?_⟩
  refine ⟨_, _, q2, z_in (by omega) (by omega), ?_⟩
  rw [z_nat (by omega), q4 i hi]
  have e2 : ((bz L[i] &&& 255).toUInt32 % 65536).toInt32 = Int32.ofNat L[i] := by
    rw [bz_255 hx, i2c_id hx]
  have key : ∀ x : Int32, x = Int32.ofNat L[i] → x.toUInt32.toUInt16.toUInt32.toInt32 = x ∧ (x.toUInt32.toUInt16.toUInt32.toInt32 = x ∧ P (.inl (some (xv_i x))) S) := by
    intro x z
    subst z
    exact ⟨c_id hx, c_id hx, hP⟩
  exact key _ e2
end SC
