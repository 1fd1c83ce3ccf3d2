section SE
variable {S : XH} {P : XP} {b cap : Nat} {L : List Nat}
/-- n digits of V, of which the last r are laid already -/
def dgr (V n r : Nat) : List Nat := (List.range n).map fun i => if n - r ≤ i then 48 + V / 10 ^ (n - 1 - i) % 10 else 48
theorem dgr_len (V n r : Nat) : (dgr V n r).length = n := by simp [dgr]
theorem dgr0 (V n : Nat) : dgr V n 0 = List.replicate n 48 := by
  apply List.ext_getElem
  · simp [dgr]
  · intro i h1 h2
    have : i < n := by simpa using h2
    simp only [dgr, List.getElem_map, List.getElem_range, List.getElem_replicate]
    rw [if_neg (by omega)]
theorem dgrn (V n : Nat) : dgr V n n = digs V n := by
  unfold dgr digs
  apply List.map_congr_left
  intro i hi
  rw [if_pos (by omega)]
theorem dgr_set {V n r : Nat} (hr : r < n) : (L ++ dgr V n r).set (L.length + (n - 1 - r)) (48 + V / 10 ^ r % 10) = L ++ dgr V n (r + 1) := by
  rw [List.set_append_right _ _ (by omega), show L.length + (n - 1 - r) - L.length = n - 1 - r by omega]
  congr 1
  apply List.ext_getElem
  · simp [dgr]
  · intro i h1 h2
    have hi : i < n := by simpa [dgr] using h2
    rw [List.getElem_set]
    simp only [dgr, List.getElem_map, List.getElem_range]
    by_cases e : n - 1 - r = i
    · rw [if_pos e, if_pos (by omega), ← e, show n - 1 - (n - 1 - r) = r by omega]
    · rw [if_neg e]
      by_cases z : n - r ≤ i
      · rw [if_pos z, if_pos (by omega)]
      · rw [if_neg z, if_neg (by omega)]
theorem cgn_step {len n i : Nat} (hl : len ≤ cap) (hn : n ≤ cap) (hi : i < n) : cgn (cgn cap (len + i)) (len + i + 1) = cgn cap (len + (i + 1)) := by
  unfold cgn
  split <;> split <;> (try split) <;> omega
set_option maxHeartbeats 4000000 in
theorem c_digits {V n : Nat} (h : BS S b cap L) (hc : cap ≤ 400) (hF : RF S) (hn : n ≤ cap) (hn' : n ≤ 100) (hV : V < 2147483648) (hP : ∀ S', BS S' b (cgn cap (L.length + n)) (L ++ digs V n) → fb b S S' → RF S' → P (.inl none) S') : Y_G_appendDigits (ec cap (L.length + n)) (ec cap (L.length + n) * (cap + cap + 2)) [xv_r 13 b, xv_i (Int32.ofNat V), xv_i (Int32.ofNat n)] S P := by
  have hL : L.length ≤ cap := by
    obtain ⟨a, f, ml, q1, q2, q3, -⟩ := h
    exact q3
  have hcg : ∀ m, cgn cap m ≤ 1000 := fun m => by
    unfold cgn
    split <;> omega
  -- the digits, from the last to the first
  have lo : ∀ k r S1 (u w : Nat), n - r = k → r ≤ n → BS S1 b (cgn cap (L.length + n)) (L ++ dgr V n r) → fb b S S1 → RF S1 →
      x_go b_G_appendDigits P 37 [some (xv_r 13 b), some (xv_i (Int32.ofNat V)), some (xv_i (Int32.ofNat n)), some (xv_i (Int32.ofNat L.length)), some (xv_i (Int32.ofNat (V / 10 ^ r))), some (xv_i (Int32.ofNat (L.length + n) - 1 - Int32.ofNat r))] [] S1 u w := by
    intro k
    induction k with
    | zero =>
      intro r S1 u w hk hr hB hf hF1
      have e : r = n := by omega
      subst e
      refine x_go.run mn_G_appendDigits 6 ?_
      refine ⟨fun _ => ?_, fun c => ?_⟩
      · rw [dgrn] at hB
        exact hP S1 hB hf hF1
      · refine (c ?_).elim
        show Int32.ofNat (L.length + r) - 1 - Int32.ofNat r < Int32.ofNat L.length
        rw [Int32.lt_iff_toInt_lt, z_isub (a := ((L.length + r : Nat) : Int) - 1) (b := (r : Int)) (z_isub (a := ((L.length + r : Nat) : Int)) (b := 1) (Int32.toInt_ofNat_of_lt (by omega)) rfl (by omega) (by omega)) (Int32.toInt_ofNat_of_lt (by omega)) (by omega) (by omega), Int32.toInt_ofNat_of_lt (by omega)]
        omega
    | succ k ih =>
      intro r S1 u w hk hr hB hf hF1
      have hr' : r < n := by omega
      have eat : Int32.ofNat (L.length + n) - 1 - Int32.ofNat r = Int32.ofNat (L.length + (n - 1 - r)) := by
        rw [show (1 : Int32) = Int32.ofNat 1 from rfl, z_sub (by omega), z_sub (by omega)]
        congr 1
        omega
      have hq : V / 10 ^ r ≤ V := Nat.div_le_self _ _
      have erem : (48 : Int32) + (Int32.ofNat (V / 10 ^ r) - Int32.ofNat (V / 10 ^ r) / 10 * 10) = Int32.ofNat (48 + V / 10 ^ r % 10) := by
        rw [show (10 : Int32) = Int32.ofNat 10 from rfl, z_div (by omega) (by decide), z_mul, z_sub (by omega), show (48 : Int32) = Int32.ofNat 48 from rfl, z_add]
        congr 1
        omega
      have ediv : Int32.ofNat (V / 10 ^ r) / 10 = Int32.ofNat (V / 10 ^ (r + 1)) := by
        rw [show (10 : Int32) = Int32.ofNat 10 from rfl, z_div (by omega) (by decide), Nat.div_div_eq_div_mul, ← Nat.pow_succ]
      rw [eat]
      refine x_go.run mn_G_appendDigits 30 ?_
      refine ⟨fun c => ?_, fun _ => ?_⟩
      · have := (z_lt (by omega) (by omega)).mp c
        omega
      obtain ⟨a1, f1, ml1, g1, -⟩ := id hB
      refine ⟨by decide, ?_⟩
      refine ⟨nl rfl, ⟨_, g1⟩, rfl, nl rfl, 0, 0, Nat.zero_le _, Nat.zero_le _, ?_⟩
      show Y_ZStringBuilder_setCharAt 0 0 [xv_r 13 b, xv_i (Int32.ofNat (L.length + (n - 1 - r))), xv_i (((48 : Int32) + (Int32.ofNat (V / 10 ^ r) - Int32.ofNat (V / 10 ^ r) / 10 * 10)).toUInt32 % 65536).toInt32] S1 _
      rw [erem, i2c_id (by omega)]
      refine c_setc hB (by have := hcg (L.length + n); omega) hF1 (by rw [List.length_append, dgr_len]; omega) (by omega) fun S2 hB2 hf2 hF2 => ?_
      rw [dgr_set hr'] at hB2
      refine ⟨by decide, ?_⟩
      have kk := ih (r + 1) S2 (u - 0) (w - 0) (by omega) (by omega) hB2 (hf.tr hf2) hF2
      have e3 : Int32.ofNat (L.length + n) - 1 - Int32.ofNat (r + 1) = Int32.ofNat (L.length + (n - 1 - r)) + -1 := by
        rw [← eat, ← z_suc, Int32.sub_eq_add_neg _ (Int32.ofNat r + 1), Int32.sub_eq_add_neg _ (Int32.ofNat r), Int32.neg_add, Int32.sub_eq_add_neg (-Int32.ofNat r), Int32.add_assoc]
      rw [e3, ← ediv] at kk
      refine x_go.back mn_G_appendDigits (x_go.run mn_G_appendDigits 3 ?_)
      exact kk
  -- noughts
  have lz : ∀ k i S1 (u w : Nat), n - i = k → i ≤ n → BS S1 b (cgn cap (L.length + i)) (L ++ List.replicate i 48) → fb b S S1 → RF S1 → (L.length + n ≤ cap ∨ cap < L.length + i ∨ (1 ≤ u ∧ cap + cap + 2 ≤ w)) →
      x_go b_G_appendDigits P 8 [some (xv_r 13 b), some (xv_i (Int32.ofNat V)), some (xv_i (Int32.ofNat n)), some (xv_i (Int32.ofNat L.length)), some (xv_i (Int32.ofNat i)), none] [] S1 u w := by
    intro k
    induction k with
    | zero =>
      intro i S1 u w hk hi hB hf hF1 _
      have e : i = n := by omega
      subst e
      refine x_go.run mn_G_appendDigits 14 ?_
      refine ⟨fun _ => ?_, fun c => ?_⟩
      · have kk := lo i 0 S1 u w (by omega) (Nat.zero_le _) (by rw [dgr0]; exact hB) hf hF1
        rw [Nat.pow_zero, Nat.div_one, show Int32.ofNat (L.length + i) - 1 - Int32.ofNat 0 = Int32.ofNat (L.length + i) - 1 from z_sub0 _, ← z_add] at kk
        refine x_go.back mn_G_appendDigits (x_go.run mn_G_appendDigits 8 ?_)
        exact kk
      · exact (c ((z_le (by omega) (by omega)).mpr (Nat.le_refl _))).elim
    | succ k ih =>
      intro i S1 u w hk hi hB hf hF1 hb
      have hi' : i < n := by omega
      obtain ⟨a1, f1, ml1, g1, -⟩ := id hB
      have el : (L ++ List.replicate i 48).length = L.length + i := by rw [List.length_append, List.length_replicate]
      have e5 : (L ++ List.replicate i 48) ++ [48] = L ++ List.replicate (i + 1) 48 := by
        rw [List.append_assoc, List.replicate_succ']
      refine x_go.run mn_G_appendDigits 12 ?_
      refine ⟨fun c => ?_, fun _ => ?_⟩
      · have := (z_le (by omega) (by omega)).mp c
        omega
      have bud : ec (cgn cap (L.length + i)) (L.length + i + 1) ≤ u ∧ ec (cgn cap (L.length + i)) (L.length + i + 1) * (cgn cap (L.length + i) + cgn cap (L.length + i) + 2) ≤ w ∧ (L.length + n ≤ cap ∨ cap < L.length + (i + 1) ∨ (1 ≤ u - ec (cgn cap (L.length + i)) (L.length + i + 1) ∧ cap + cap + 2 ≤ w - ec (cgn cap (L.length + i)) (L.length + i + 1) * (cgn cap (L.length + i) + cgn cap (L.length + i) + 2))) := by
        unfold ec cgn
        by_cases z1 : L.length + i ≤ cap
        · rw [if_pos z1]
          by_cases z2 : L.length + i + 1 ≤ cap
          · rw [if_pos z2, Nat.zero_mul]
            omega
          · rw [if_neg z2, Nat.one_mul]
            omega
        · rw [if_neg z1, if_pos (by omega), Nat.zero_mul]
          omega
      refine ⟨nl rfl, ⟨_, g1⟩, rfl, nl rfl, ec (cgn cap (L.length + i)) (L.length + i + 1), ec (cgn cap (L.length + i)) (L.length + i + 1) * (cgn cap (L.length + i) + cgn cap (L.length + i) + 2), bud.1, bud.2.1, ?_⟩
      have ap := fun Q hQ => c_app1 (c := 48) (P := Q) hB (by have := hcg (L.length + i); omega) hF1 (by decide) hQ
      rw [el] at ap
      refine ap _ fun S2 hB2 hf2 hF2 => ?_
      rw [e5, cgn_step hL hn hi'] at hB2
      have kk := ih (i + 1) S2 _ _ (by omega) (by omega) hB2 (hf.tr hf2) hF2 bud.2.2
      rw [← z_suc] at kk
      refine x_go.back mn_G_appendDigits (x_go.run mn_G_appendDigits 3 ?_)
      exact kk
  refine x_go.run mn_G_appendDigits 6 ?_
  obtain ⟨a, f, ml, q1, q2, q3, q4, q5, q6⟩ := id h
  refine ⟨nl rfl, ⟨_, q1⟩, rfl, nl rfl, 0, 0, Nat.zero_le _, Nat.zero_le _, c_sblen h ?_⟩
  have kk := lz n 0 S (ec cap (L.length + n) - 0) (ec cap (L.length + n) * (cap + cap + 2) - 0) rfl (Nat.zero_le _) (by unfold cgn; rw [if_pos (by omega), List.replicate_zero, List.append_nil]; exact h) fb.rf hF (by
    unfold ec
    by_cases z : L.length + n ≤ cap
    · exact Or.inl z
    · rw [if_neg z, Nat.one_mul]
      omega)
  refine x_go.back mn_G_appendDigits (x_go.run mn_G_appendDigits 3 ?_)
  exact kk
end SE
