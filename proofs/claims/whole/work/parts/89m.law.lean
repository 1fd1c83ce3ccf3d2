section DK
variable {L : Nat} {xs : Nat → Int32}
theorem and31 (x : Int32) : ∃ k : Nat, k < 32 ∧ (x &&& 31).toInt = (k : Int) := by
  have h : (x &&& 31).toBitVec.toNat ≤ 31 := by
    rw [Int32.toBitVec_and, BitVec.toNat_and]
    exact Nat.and_le_right
  refine ⟨(x &&& 31).toBitVec.toNat, by omega, ?_⟩
  show (x &&& 31).toBitVec.toInt = _
  exact BitVec.toInt_eq_toNat_of_lt (by omega)
set_option maxRecDepth 100000 in
set_option maxHeartbeats 8000000 in
theorem law_loop (hL : L ≤ 2048) : ∀ r n d S u w (j5 j6 : Option XV), 513 - n = r → n ≤ 512 → 4 * n ≤ L → LG L xs n d S u w → x_go b_L_law st_P 23 [some (xv_r 48 0), some (xv_r 0 0), some (xv_r 15 0), some (xv_r 30 0), some (xv_i (Int32.ofNat (4 * n))), j5, j6] [] S u w := by
  intro r
  induction r with
  | zero =>
    intro n d S u w j5 j6 hr hn
    omega
  | succ r ih =>
    intro n d S u w j5 j6 hr hn h4 hl
    obtain ⟨hK, ⟨g, hR, hD⟩, hX, ho, h48, hv, hu, hw⟩ := id hl
    have hs : S 48 0 = some (.inr (0, L, .inl xs)) := by
      rw [h48 48 (by decide)]
      rfl
    have el : (Int32.ofNat L - 4).toInt = (L : Int) - 4 := z_isub (b := 4) (z_toInt (by omega)) rfl (by omega) (by omega)
    have ec : Int32.ofNat L - 4 < Int32.ofNat (4 * n) ↔ L < 4 * n + 4 := by
      rw [Int32.lt_iff_toInt_lt, el, z_toInt (by omega)]
      omega
    refine x_go.run mn_L_law 12 ?_
    refine ⟨_, _, _, hs, by decide, ?_⟩
    refine ⟨fun c => ⟨Or.inr rfl, rfl⟩, fun c => ?_⟩
    have hi : 4 * n + 4 ≤ L := by
      rcases Nat.lt_or_ge L (4 * n + 4) with y | y
      · exact (c (ec.mpr y)).elim
      · exact y
    have hn' : n < 512 := by omega
    have nx : LNx L xs n := by
      intro d' S' u' w' j5 j6 hl'
      have kk := ih (n + 1) d' S' u' w' j5 j6 (by omega) (by omega) (by omega) hl'
      rw [show 4 * (n + 1) = 4 * n + 4 by omega, ← z_add (4 * n) 4] at kk
      exact x_go.run mn_L_law 2 kk
    refine ⟨L, xs, hs, z_in (by omega) (by omega), ?_⟩
    obtain ⟨k, hk, ek⟩ := and31 (xs (Int32.ofNat (4 * n)).toNatClampNeg)
    have rest : ∀ q : Fin 32, 17 ≤ q.1 → swt 1143 (q.1 : Int) [(0, 120), (1, 168), (2, 243), (3, 311), (4, 347), (5, 403), (6, 459), (7, 515), (8, 563), (9, 643), (10, 703), (11, 759), (12, 827), (13, 883), (14, 939), (15, 1007), (16, 1087)] = 1143 := by decide
    rcases (show k = 0 ∨ k = 1 ∨ k = 2 ∨ k = 3 ∨ k = 4 ∨ k = 5 ∨ k = 6 ∨ k = 7 ∨ k = 8 ∨ k = 9 ∨ k = 10 ∨ k = 11 ∨ k = 12 ∨ k = 13 ∨ k = 14 ∨ k = 15 ∨ k = 16 ∨ 17 ≤ k by omega) with rfl | rfl | rfl | rfl | rfl | rfl | rfl | rfl | rfl | rfl | rfl | rfl | rfl | rfl | rfl | rfl | rfl | hk17
    · exact x_swk_of (n := 120) (by rw [ek]; decide) (x_go.back mn_L_law (op_card hl hn' hi hL nx j5 j6))
    · exact x_swk_of (n := 168) (by rw [ek]; decide) (x_go.back mn_L_law (op_pin hl hn' hi hL nx j5 j6))
    · exact x_swk_of (n := 243) (by rw [ek]; decide) (x_go.back mn_L_law (op_ask hl hn' hi hL nx j5 j6))
    · exact x_swk_of (n := 311) (by rw [ek]; decide) (x_go.back mn_L_law (op_cancel hl hn' hi hL nx j5 j6))
    · exact x_swk_of (n := 347) (by rw [ek]; decide) (x_go.back mn_L_law (op_again hl hn' hi hL nx j5 j6))
    · exact x_swk_of (n := 403) (by rw [ek]; decide) (x_go.back mn_L_law (op_settle hl hn' hi hL nx j5 j6))
    · exact x_swk_of (n := 459) (by rw [ek]; decide) (x_go.back mn_L_law (op_deliver hl hn' hi hL nx j5 j6))
    · exact x_swk_of (n := 515) (by rw [ek]; decide) (x_go.back mn_L_law (op_jam hl hn' hi hL nx j5 j6))
    · exact x_swk_of (n := 563) (by rw [ek]; decide) (x_go.back mn_L_law (op_load hl hn' hi hL nx j5 j6))
    · exact x_swk_of (n := 643) (by rw [ek]; decide) (x_go.back mn_L_law (op_power hl hn' hi hL nx j5 j6))
    · exact x_swk_of (n := 703) (by rw [ek]; decide) (x_go.back mn_L_law (op_on hl hn' hi hL nx j5 j6))
    · exact x_swk_of (n := 759) (by rw [ek]; decide) (x_go.back mn_L_law (op_told hl hn' hi hL nx j5 j6))
    · exact x_swk_of (n := 827) (by rw [ek]; decide) (x_go.back mn_L_law (op_balance hl hn' hi hL nx j5 j6))
    · exact x_swk_of (n := 883) (by rw [ek]; decide) (x_go.back mn_L_law (op_taken hl hn' hi hL nx j5 j6))
    · exact x_swk_of (n := 939) (by rw [ek]; decide) (x_go.back mn_L_law (op_byteAt hl hn' hi hL nx j5 j6))
    · exact x_swk_of (n := 1007) (by rw [ek]; decide) (x_go.back mn_L_law (op_mix hl hn' hi hL nx j5 j6))
    · exact x_swk_of (n := 1087) (by rw [ek]; decide) (x_go.back mn_L_law (op_count hl hn' hi hL nx j5 j6))
    · refine x_swk_of (n := 1143) (by rw [ek]; exact rest ⟨k, hk⟩ hk17) (x_go.back mn_L_law (nx d S u w j5 j6 (hl.next hn' (keeps.rf hv) hK ⟨g, hR, hD⟩ hX ho (fun _ _ => rfl) (by omega) (by omega))))
set_option maxRecDepth 100000 in
set_option maxHeartbeats 4000000 in
theorem law_all (hL : L ≤ 2048) {u w : Nat} (hu : 430000 ≤ u) (hw : 6200000 ≤ w) : x_go b_L_law st_P 0 [some (xv_r 48 0), none, none, none, none, none, none] [] (st_S L xs) u w := by
  have h0 : ∀ k i, k < 48 → st_S L xs k i = none := fun k i hk => by
    unfold st_S
    rw [if_neg (by omega), if_neg (by omega), if_neg (by omega), if_neg (by omega), if_neg (by omega), if_neg (by omega), if_neg (by omega), if_neg (by omega), if_neg (by omega)]
  refine x_go.run mn_L_law 20 ?_
  refine ⟨by show 1 ≤ u; omega, by show 4 ≤ w; omega, 0, 0, nl rfl, h0 0 0 (by decide), ?_⟩
  refine ⟨rfl, nl rfl, 40, 560, by show 40 ≤ u - 1; omega, by show 560 ≤ w - 4; omega, c_cinit (f54 := fun _ => none) (x_up_self _ _ _ _) (fun k i hk => by rw [x_up_ne (by omega)]; exact h0 k i (by omega)) (by rw [x_up_ne (by decide)]; rfl) fun S1 k1 f1 => ?_⟩
  have f1' : ∀ k, (15 ≤ k ∧ k < 20) ∨ 30 ≤ k → S1 k = st_S L xs k := fun k hk => by
    rw [f1 k hk, x_up_k (by omega)]
  refine ⟨by show 1 ≤ u - 1 - 40; omega, by show 31 ≤ w - 4 - 560; omega, 15, 0, nl rfl, by rw [f1' 15 (by omega)]; exact h0 15 0 (by decide), ?_⟩
  refine ⟨rfl, nl rfl, 27, 71131, by show 27 ≤ u - 1 - 40 - 1; omega, by show 71131 ≤ w - 4 - 560 - 31; omega, r_init (x_up_self _ _ _ _) (fun n => by rw [x_up_k (by decide), f1' 16 (by omega)]; exact h0 16 n (by decide)) (by rw [x_up_k (by decide), f1' 17 (by omega)]; exact h0 17 0 (by decide)) fun g2 S2 r2 d2 f2 e19 => ?_⟩
  have f2' : ∀ k, k < 15 ∨ 20 ≤ k → S2 k = S1 k := fun k hk => by
    rw [f2 k hk, x_up_k (by omega)]
  refine ⟨by decide, by decide, by show 1 ≤ u - 1 - 40 - 1 - 27; omega, by show 1 ≤ w - 4 - 560 - 31 - 71131; omega, 30, 0, nl rfl, by rw [f2' 30 (by omega), f1' 30 (by omega)]; exact h0 30 0 (by decide), ?_⟩
  have k3 : KS d0 (x_up S2 30 0 (.inr (1, 1, .inr (.inl (fun _ => 0))))) := k1.of fun k hk => by
    rw [x_up_k (by omega), f2' k (by omega)]
  have hx : RX (x_up S2 30 0 (.inr (1, 1, .inr (.inl (fun _ => 0))))) := ⟨0, fun i _ => by
    rw [x_up_k (by decide), e19, x_up_k (by decide), f1' 19 (by omega)]
    exact h0 19 i (by decide)⟩
  have n3 := nS_le 3000
  have n3' := nc_max 3000
  have n4 := nK_le 3000
  refine x_go.back mn_L_law (x_go.run mn_L_law 3 (law_loop (xs := xs) hL 513 0 d0 _ _ _ none none rfl (by decide) (Nat.zero_le _) ⟨k3, ⟨g2, r2.keep (x_up_k (by decide)) (x_up_k (by decide)) (x_up_k (by decide)), d2⟩, hx, ⟨_, x_up_self _ _ _ _⟩, fun k hk => ?_, Iv.init, ?_, ?_⟩))
  · rw [x_up_k (by omega), f2' k (by omega), f1' k (by omega)]
  · show 820 * (512 - 0) + (nK 3000 - nK 0) ≤ u - 1 - 40 - 1 - 27 - 1
    omega
  · show 11850 * (512 - 0) + (nS 3000 - nS 0) ≤ w - 4 - 560 - 31 - 71131 - 1
    omega
end DK
