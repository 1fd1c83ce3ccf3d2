section DJ
variable {L n : Nat} {xs : Nat → Int32} {d : DS} {S : XH} {u w : Nat}
set_option maxRecDepth 100000 in
set_option maxHeartbeats 4000000 in
theorem op_card (hl : LG L xs n d S u w) (hn : n < 512) (hi : 4 * n + 4 ≤ L) (hL : L ≤ 2048) (nx : LNx L xs n) (j5 j6 : Option XV) : x_go b_L_law st_P 120 [some (xv_r 48 0), some (xv_r 0 0), some (xv_r 15 0), some (xv_r 30 0), some (xv_i (Int32.ofNat (4 * n))), j5, j6] [] S u w := by
  obtain ⟨hK, ⟨g, hR, hD⟩, hX, ho, h48, hv, hu, hw⟩ := id hl
  have hro := ro_st h48
  have h5 : (d.2 5).length ≤ 3000 := hD.2.2.2.2.1
  have hn5 : n ≤ 512 := by omega
  have hs : S 48 0 = some (.inr (0, L, .inl xs)) := by
    rw [h48 48 (by decide)]
    rfl
  have kk := k_card hv  (xs (4 * n + 1)) (xs (4 * n + 2))
  have m1 := nK_mono kk.2
  have m2 := nS_mono kk.2
  generalize hr : s_card d (xs (4 * n + 1)) (xs (4 * n + 2)) = r at kk m1 m2
  refine x_go.run mn_L_law 80 ?_
  refine ⟨L, xs, hs, sc_in hn hi hL (c := 1) (by decide), L, xs, hs, sc_in hn hi hL (c := 2) (by decide), ?_⟩
  rw [show xs (Int32.ofNat (4 * n) + 1).toNatClampNeg = _ from sc_at hn (c := 1) (by decide) xs, show xs (Int32.ofNat (4 * n) + 2).toNatClampNeg = _ from sc_at hn (c := 2) (by decide) xs]
  refine ⟨nl rfl, rfl, nl rfl, 3, 18, by show 3 ≤ u; omega, by show 18 ≤ w; omega, L_card hK (hr.symm ▸ fun S1 k1 f1 => ?_)⟩
  have hs1 : S1 48 0 = some (.inr (0, L, .inl xs)) := by
    rw [f1 48 (by omega)]
    exact hs
  have h481 : ∀ k, 48 ≤ k → S1 k = st_S L xs k := fun k hk => (f1 k (by omega)).trans (h48 k hk)
  have r1 : RM g S1 := hR.keep (f1 15 (by omega)) (f1 16 (by omega)) (f1 17 (by omega))
  have x1 : RX S1 := hX.eq (f1 19 (by omega))
  have oo : outA S1 := ho.fc f1
  refine ⟨L, xs, hs1, sc_in hn hi hL (c := 1) (by decide), L, xs, hs1, sc_in hn hi hL (c := 2) (by decide), ?_⟩
  rw [show xs (Int32.ofNat (4 * n) + 1).toNatClampNeg = _ from sc_at hn (c := 1) (by decide) xs, show xs (Int32.ofNat (4 * n) + 2).toNatClampNeg = _ from sc_at hn (c := 2) (by decide) xs]
  refine ⟨nl rfl, ⟨_, r1.1⟩, rfl, nl rfl, 0, 0, by show 0 ≤ u - 3; omega, by show 0 ≤ w - 18; omega, R_card r1 hD x1  (hr.symm ▸ fun g2 S2 r2 d2 t2 f2 x2 => ?_)⟩
  refine ⟨nl rfl, ⟨_, r2.1⟩, rfl, nl rfl, 0, 0, Nat.zero_le _, Nat.zero_le _, r_thrown r2 ?_⟩
  rw [t2]
  refine ⟨fun _ => ?_, fun c => (c rfl).elim⟩
  have ko : outA S2 := by
    obtain ⟨f, hf⟩ := oo
    exact ⟨f, by rw [f2 30 (by omega)]; exact hf⟩
  have fin : ∀ (j5 j6 : Option XV), x_go b_L_law st_P 1143 [some (xv_r 48 0), some (xv_r 0 0), some (xv_r 15 0), some (xv_r 30 0), some (xv_i (Int32.ofNat (4 * n))), j5, j6] [] S2 (u - 3 - 0 - 0) (w - 18 - 0 - 0) := fun j5 j6 => nx _ S2 _ _ j5 j6 (hl.next hn kk (k1.of fun k hk => f2 k (by omega)) ⟨g2, r2, d2⟩ x2 ko (fun k hk => (f2 k (by omega)).trans (f1 k (by omega))) (by omega) (by omega))
  exact x_go.back mn_L_law (x_go.run mn_L_law 1 (fin _ _))

set_option maxRecDepth 100000 in
set_option maxHeartbeats 4000000 in
theorem op_pin (hl : LG L xs n d S u w) (hn : n < 512) (hi : 4 * n + 4 ≤ L) (hL : L ≤ 2048) (nx : LNx L xs n) (j5 j6 : Option XV) : x_go b_L_law st_P 168 [some (xv_r 48 0), some (xv_r 0 0), some (xv_r 15 0), some (xv_r 30 0), some (xv_i (Int32.ofNat (4 * n))), j5, j6] [] S u w := by
  obtain ⟨hK, ⟨g, hR, hD⟩, hX, ho, h48, hv, hu, hw⟩ := id hl
  have hro := ro_st h48
  have h5 : (d.2 5).length ≤ 3000 := hD.2.2.2.2.1
  have hn5 : n ≤ 512 := by omega
  have hs : S 48 0 = some (.inr (0, L, .inl xs)) := by
    rw [h48 48 (by decide)]
    rfl
  have kk := k_pin hv  (xs (4 * n + 1)) (xs (4 * n + 2))
  have m1 := nK_mono kk.2
  have m2 := nS_mono kk.2
  generalize hr : s_pin d (xs (4 * n + 1)) (xs (4 * n + 2)) = r at kk m1 m2
  refine x_go.run mn_L_law 80 ?_
  refine ⟨L, xs, hs, sc_in hn hi hL (c := 1) (by decide), L, xs, hs, sc_in hn hi hL (c := 2) (by decide), ?_⟩
  rw [show xs (Int32.ofNat (4 * n) + 1).toNatClampNeg = _ from sc_at hn (c := 1) (by decide) xs, show xs (Int32.ofNat (4 * n) + 2).toNatClampNeg = _ from sc_at hn (c := 2) (by decide) xs]
  refine ⟨nl rfl, rfl, nl rfl, 3, 18, by show 3 ≤ u; omega, by show 18 ≤ w; omega, L_pin hK ho (hr.symm ▸ fun S1 fo1 k1 f1 o1 v1 => ?_)⟩
  have hs1 : S1 48 0 = some (.inr (0, L, .inl xs)) := by
    rw [f1 48 (by omega)]
    exact hs
  have h481 : ∀ k, 48 ≤ k → S1 k = st_S L xs k := fun k hk => (f1 k (by omega)).trans (h48 k hk)
  have r1 : RM g S1 := hR.keep (f1 15 (by omega)) (f1 16 (by omega)) (f1 17 (by omega))
  have x1 : RX S1 := hX.eq (f1 19 (by omega))
  have oo : outA S1 := ⟨fo1, o1⟩
  refine ⟨L, xs, hs1, sc_in hn hi hL (c := 1) (by decide), L, xs, hs1, sc_in hn hi hL (c := 2) (by decide), ?_⟩
  rw [show xs (Int32.ofNat (4 * n) + 1).toNatClampNeg = _ from sc_at hn (c := 1) (by decide) xs, show xs (Int32.ofNat (4 * n) + 2).toNatClampNeg = _ from sc_at hn (c := 2) (by decide) xs]
  refine ⟨nl rfl, ⟨_, r1.1⟩, rfl, nl rfl, 0, 0, by show 0 ≤ u - 3; omega, by show 0 ≤ w - 18; omega, R_pin r1 hD x1  (hr.symm ▸ fun g2 S2 r2 d2 t2 f2 x2 => ?_)⟩
  refine ⟨nl rfl, ⟨_, r2.1⟩, rfl, nl rfl, 0, 0, Nat.zero_le _, Nat.zero_le _, r_thrown r2 ?_⟩
  rw [t2]
  refine ⟨fun _ => ?_, fun c => (c rfl).elim⟩
  have ko : outA S2 := by
    obtain ⟨f, hf⟩ := oo
    exact ⟨f, by rw [f2 30 (by omega)]; exact hf⟩
  have fin : ∀ (j5 j6 : Option XV), x_go b_L_law st_P 1143 [some (xv_r 48 0), some (xv_r 0 0), some (xv_r 15 0), some (xv_r 30 0), some (xv_i (Int32.ofNat (4 * n))), j5, j6] [] S2 (u - 3 - 0 - 0) (w - 18 - 0 - 0) := fun j5 j6 => nx _ S2 _ _ j5 j6 (hl.next hn kk (k1.of fun k hk => f2 k (by omega)) ⟨g2, r2, d2⟩ x2 ko (fun k hk => (f2 k (by omega)).trans (f1 k (by omega))) (by omega) (by omega))
  refine ⟨fun _ => x_go.back mn_L_law (x_go.run mn_L_law 1 (fin _ _)), fun c => ?_⟩
  have v1 := v1 (Classical.not_not.mp c)
  refine ⟨nl rfl, 1, fo1, by rw [f2 30 (by omega)]; exact o1, z_in (k := 0) (by decide) (by decide), ?_⟩
  have hv01 : r.2.2 = 0 ∨ r.2.2 = 1 := by
    rw [← hr]
    exact pin01 _ _
  rcases hv01 with hz | hz
  · rw [hz] at v1 ⊢
    refine ⟨fun _ => ?_, fun c => (c rfl).elim⟩
    rw [show fo1 (Int32.toNatClampNeg 0) = _ from v1]
    exact ⟨fun _ => x_go.back mn_L_law (x_go.run mn_L_law 1 (fin _ _)), fun c => (c (lg_self _)).elim⟩
  · rw [hz] at v1 ⊢
    refine ⟨fun c => absurd c (by decide), fun _ => ?_⟩
    rw [show fo1 (Int32.toNatClampNeg 0) = _ from v1]
    exact ⟨fun _ => x_go.back mn_L_law (x_go.run mn_L_law 1 (fin _ _)), fun c => (c (lg_self _)).elim⟩

set_option maxRecDepth 100000 in
set_option maxHeartbeats 4000000 in
theorem op_ask (hl : LG L xs n d S u w) (hn : n < 512) (hi : 4 * n + 4 ≤ L) (hL : L ≤ 2048) (nx : LNx L xs n) (j5 j6 : Option XV) : x_go b_L_law st_P 243 [some (xv_r 48 0), some (xv_r 0 0), some (xv_r 15 0), some (xv_r 30 0), some (xv_i (Int32.ofNat (4 * n))), j5, j6] [] S u w := by
  obtain ⟨hK, ⟨g, hR, hD⟩, hX, ho, h48, hv, hu, hw⟩ := id hl
  have hro := ro_st h48
  have h5 : (d.2 5).length ≤ 3000 := hD.2.2.2.2.1
  have hn5 : n ≤ 512 := by omega
  have hs : S 48 0 = some (.inr (0, L, .inl xs)) := by
    rw [h48 48 (by decide)]
    rfl
  have kk := k_ask hv hn5 (xs (4 * n + 1)) (xs (4 * n + 2))
  have m1 := nK_mono kk.2
  have m2 := nS_mono kk.2
  generalize hr : s_ask d (xs (4 * n + 1)) (xs (4 * n + 2)) = r at kk m1 m2
  refine x_go.run mn_L_law 80 ?_
  refine ⟨L, xs, hs, sc_in hn hi hL (c := 1) (by decide), L, xs, hs, sc_in hn hi hL (c := 2) (by decide), ?_⟩
  rw [show xs (Int32.ofNat (4 * n) + 1).toNatClampNeg = _ from sc_at hn (c := 1) (by decide) xs, show xs (Int32.ofNat (4 * n) + 2).toNatClampNeg = _ from sc_at hn (c := 2) (by decide) xs]
  refine ⟨nl rfl, rfl, nl rfl, 8, 7000, by show 8 ≤ u; omega, by show 7000 ≤ w; omega, L_ask hK hro hv.1 hn5 h5 ho (hr.symm ▸ fun S1 fo1 k1 f1 o1 v1 => ?_)⟩
  have hs1 : S1 48 0 = some (.inr (0, L, .inl xs)) := by
    rw [f1 48 (by omega)]
    exact hs
  have h481 : ∀ k, 48 ≤ k → S1 k = st_S L xs k := fun k hk => (f1 k (by omega)).trans (h48 k hk)
  have r1 : RM g S1 := hR.keep (f1 15 (by omega)) (f1 16 (by omega)) (f1 17 (by omega))
  have x1 : RX S1 := hX.eq (f1 19 (by omega))
  have oo : outA S1 := ⟨fo1, o1⟩
  refine ⟨L, xs, hs1, sc_in hn hi hL (c := 1) (by decide), L, xs, hs1, sc_in hn hi hL (c := 2) (by decide), ?_⟩
  rw [show xs (Int32.ofNat (4 * n) + 1).toNatClampNeg = _ from sc_at hn (c := 1) (by decide) xs, show xs (Int32.ofNat (4 * n) + 2).toNatClampNeg = _ from sc_at hn (c := 2) (by decide) xs]
  refine ⟨nl rfl, ⟨_, r1.1⟩, rfl, nl rfl, 1, 6, by show 1 ≤ u - 8; omega, by show 6 ≤ w - 7000; omega, R_ask r1 hD x1 hv.1 (hr.symm ▸ fun g2 S2 r2 d2 t2 f2 x2 => ?_)⟩
  refine ⟨nl rfl, ⟨_, r2.1⟩, rfl, nl rfl, 0, 0, Nat.zero_le _, Nat.zero_le _, r_thrown r2 ?_⟩
  rw [t2]
  refine ⟨fun _ => ?_, fun c => (c rfl).elim⟩
  have ko : outA S2 := by
    obtain ⟨f, hf⟩ := oo
    exact ⟨f, by rw [f2 30 (by omega)]; exact hf⟩
  have fin : ∀ (j5 j6 : Option XV), x_go b_L_law st_P 1143 [some (xv_r 48 0), some (xv_r 0 0), some (xv_r 15 0), some (xv_r 30 0), some (xv_i (Int32.ofNat (4 * n))), j5, j6] [] S2 (u - 8 - 1 - 0) (w - 7000 - 6 - 0) := fun j5 j6 => nx _ S2 _ _ j5 j6 (hl.next hn kk (k1.of fun k hk => f2 k (by omega)) ⟨g2, r2, d2⟩ x2 ko (fun k hk => (f2 k (by omega)).trans (f1 k (by omega))) (by omega) (by omega))
  refine ⟨fun _ => x_go.back mn_L_law (x_go.run mn_L_law 1 (fin _ _)), fun c => ?_⟩
  have v1 := v1 (Classical.not_not.mp c)
  refine ⟨nl rfl, 1, fo1, by rw [f2 30 (by omega)]; exact o1, z_in (k := 0) (by decide) (by decide), ?_⟩
  rw [show fo1 (Int32.toNatClampNeg 0) = _ from v1]
  refine ⟨fun _ => x_go.back mn_L_law (x_go.run mn_L_law 1 (fin _ _)), fun c => (c (lg_self _)).elim⟩

set_option maxRecDepth 100000 in
set_option maxHeartbeats 4000000 in
theorem op_cancel (hl : LG L xs n d S u w) (hn : n < 512) (hi : 4 * n + 4 ≤ L) (hL : L ≤ 2048) (nx : LNx L xs n) (j5 j6 : Option XV) : x_go b_L_law st_P 311 [some (xv_r 48 0), some (xv_r 0 0), some (xv_r 15 0), some (xv_r 30 0), some (xv_i (Int32.ofNat (4 * n))), j5, j6] [] S u w := by
  obtain ⟨hK, ⟨g, hR, hD⟩, hX, ho, h48, hv, hu, hw⟩ := id hl
  have hro := ro_st h48
  have h5 : (d.2 5).length ≤ 3000 := hD.2.2.2.2.1
  have hn5 : n ≤ 512 := by omega
  have hs : S 48 0 = some (.inr (0, L, .inl xs)) := by
    rw [h48 48 (by decide)]
    rfl
  have kk := k_cancel hv hn5 (xs (4 * n + 1))
  have m1 := nK_mono kk.2
  have m2 := nS_mono kk.2
  generalize hr : s_cancel d (xs (4 * n + 1)) = r at kk m1 m2
  refine x_go.run mn_L_law 80 ?_
  refine ⟨L, xs, hs, sc_in hn hi hL (c := 1) (by decide), ?_⟩
  rw [show xs (Int32.ofNat (4 * n) + 1).toNatClampNeg = _ from sc_at hn (c := 1) (by decide) xs]
  refine ⟨nl rfl, rfl, nl rfl, 8, 7000, by show 8 ≤ u; omega, by show 7000 ≤ w; omega, L_cancel hK hro hv.1 hn5 h5 (hr.symm ▸ fun S1 k1 f1 => ?_)⟩
  have hs1 : S1 48 0 = some (.inr (0, L, .inl xs)) := by
    rw [f1 48 (by omega)]
    exact hs
  have h481 : ∀ k, 48 ≤ k → S1 k = st_S L xs k := fun k hk => (f1 k (by omega)).trans (h48 k hk)
  have r1 : RM g S1 := hR.keep (f1 15 (by omega)) (f1 16 (by omega)) (f1 17 (by omega))
  have x1 : RX S1 := hX.eq (f1 19 (by omega))
  have oo : outA S1 := ho.fc f1
  refine ⟨L, xs, hs1, sc_in hn hi hL (c := 1) (by decide), ?_⟩
  rw [show xs (Int32.ofNat (4 * n) + 1).toNatClampNeg = _ from sc_at hn (c := 1) (by decide) xs]
  refine ⟨nl rfl, ⟨_, r1.1⟩, rfl, nl rfl, 1, 6, by show 1 ≤ u - 8; omega, by show 6 ≤ w - 7000; omega, R_cancel r1 hD x1 hv.1 hn5 (hr.symm ▸ fun g2 S2 r2 d2 t2 f2 x2 => ?_)⟩
  refine ⟨nl rfl, ⟨_, r2.1⟩, rfl, nl rfl, 0, 0, Nat.zero_le _, Nat.zero_le _, r_thrown r2 ?_⟩
  rw [t2]
  refine ⟨fun _ => ?_, fun c => (c rfl).elim⟩
  have ko : outA S2 := by
    obtain ⟨f, hf⟩ := oo
    exact ⟨f, by rw [f2 30 (by omega)]; exact hf⟩
  have fin : ∀ (j5 j6 : Option XV), x_go b_L_law st_P 1143 [some (xv_r 48 0), some (xv_r 0 0), some (xv_r 15 0), some (xv_r 30 0), some (xv_i (Int32.ofNat (4 * n))), j5, j6] [] S2 (u - 8 - 1 - 0) (w - 7000 - 6 - 0) := fun j5 j6 => nx _ S2 _ _ j5 j6 (hl.next hn kk (k1.of fun k hk => f2 k (by omega)) ⟨g2, r2, d2⟩ x2 ko (fun k hk => (f2 k (by omega)).trans (f1 k (by omega))) (by omega) (by omega))
  exact x_go.back mn_L_law (x_go.run mn_L_law 1 (fin _ _))

set_option maxRecDepth 100000 in
set_option maxHeartbeats 4000000 in
theorem op_again0 (hl : LG L xs n d S u w) (hn : n < 512) (hi : 4 * n + 4 ≤ L) (hL : L ≤ 2048) (nx : LNx L xs n) (j5 j6 : Option XV) (hz : ∃ M, M < 4 ∧ xs (4 * n + 1) = Int32.ofNat M ∧ d.1 10 M = 0) : x_go b_L_law st_P 347 [some (xv_r 48 0), some (xv_r 0 0), some (xv_r 15 0), some (xv_r 30 0), some (xv_i (Int32.ofNat (4 * n))), j5, j6] [] S u w := by
  obtain ⟨hK, ⟨g, hR, hD⟩, hX, ho, h48, hv, hu, hw⟩ := id hl
  have hro := ro_st h48
  have h5 : (d.2 5).length ≤ 3000 := hD.2.2.2.2.1
  have hn5 : n ≤ 512 := by omega
  have hs : S 48 0 = some (.inr (0, L, .inl xs)) := by
    rw [h48 48 (by decide)]
    rfl
  have kk := k_again hv hn5 (xs (4 * n + 1))
  have m1 := nK_mono kk.2
  have m2 := nS_mono kk.2
  generalize hr : s_again d (xs (4 * n + 1)) = r at kk m1 m2
  refine x_go.run mn_L_law 80 ?_
  refine ⟨L, xs, hs, sc_in hn hi hL (c := 1) (by decide), ?_⟩
  rw [show xs (Int32.ofNat (4 * n) + 1).toNatClampNeg = _ from sc_at hn (c := 1) (by decide) xs]
  refine ⟨nl rfl, rfl, nl rfl, 2, 12, by show 2 ≤ u; omega, by show 12 ≤ w; omega, L_again0 hK hz ho (hr.symm ▸ fun S1 fo1 k1 f1 o1 v1 => ?_)⟩
  have hs1 : S1 48 0 = some (.inr (0, L, .inl xs)) := by
    rw [f1 48 (by omega)]
    exact hs
  have h481 : ∀ k, 48 ≤ k → S1 k = st_S L xs k := fun k hk => (f1 k (by omega)).trans (h48 k hk)
  have r1 : RM g S1 := hR.keep (f1 15 (by omega)) (f1 16 (by omega)) (f1 17 (by omega))
  have x1 : RX S1 := hX.eq (f1 19 (by omega))
  have oo : outA S1 := ⟨fo1, o1⟩
  refine ⟨L, xs, hs1, sc_in hn hi hL (c := 1) (by decide), ?_⟩
  rw [show xs (Int32.ofNat (4 * n) + 1).toNatClampNeg = _ from sc_at hn (c := 1) (by decide) xs]
  refine ⟨nl rfl, ⟨_, r1.1⟩, rfl, nl rfl, 0, 0, by show 0 ≤ u - 2; omega, by show 0 ≤ w - 12; omega, R_again r1 hD x1  (hr.symm ▸ fun g2 S2 r2 d2 t2 f2 x2 => ?_)⟩
  refine ⟨nl rfl, ⟨_, r2.1⟩, rfl, nl rfl, 0, 0, Nat.zero_le _, Nat.zero_le _, r_thrown r2 ?_⟩
  rw [t2]
  refine ⟨fun _ => ?_, fun c => (c rfl).elim⟩
  have ko : outA S2 := by
    obtain ⟨f, hf⟩ := oo
    exact ⟨f, by rw [f2 30 (by omega)]; exact hf⟩
  have fin : ∀ (j5 j6 : Option XV), x_go b_L_law st_P 1143 [some (xv_r 48 0), some (xv_r 0 0), some (xv_r 15 0), some (xv_r 30 0), some (xv_i (Int32.ofNat (4 * n))), j5, j6] [] S2 (u - 2 - 0 - 0) (w - 12 - 0 - 0) := fun j5 j6 => nx _ S2 _ _ j5 j6 (hl.next hn kk (k1.of fun k hk => f2 k (by omega)) ⟨g2, r2, d2⟩ x2 ko (fun k hk => (f2 k (by omega)).trans (f1 k (by omega))) (by omega) (by omega))
  refine ⟨fun _ => x_go.back mn_L_law (x_go.run mn_L_law 1 (fin _ _)), fun c => ?_⟩
  have v1 := v1 (Classical.not_not.mp c)
  refine ⟨nl rfl, 1, fo1, by rw [f2 30 (by omega)]; exact o1, z_in (k := 0) (by decide) (by decide), ?_⟩
  rw [show fo1 (Int32.toNatClampNeg 0) = _ from v1]
  refine ⟨fun _ => x_go.back mn_L_law (x_go.run mn_L_law 1 (fin _ _)), fun c => (c (lg_self _)).elim⟩

set_option maxRecDepth 100000 in
set_option maxHeartbeats 4000000 in
theorem op_again (hl : LG L xs n d S u w) (hn : n < 512) (hi : 4 * n + 4 ≤ L) (hL : L ≤ 2048) (nx : LNx L xs n) (j5 j6 : Option XV) : x_go b_L_law st_P 347 [some (xv_r 48 0), some (xv_r 0 0), some (xv_r 15 0), some (xv_r 30 0), some (xv_i (Int32.ofNat (4 * n))), j5, j6] [] S u w := by
  obtain ⟨hK, ⟨g, hR, hD⟩, hX, ho, h48, hv, hu, hw⟩ := id hl
  have hro := ro_st h48
  have h5 : (d.2 5).length ≤ 3000 := hD.2.2.2.2.1
  have hn5 : n ≤ 512 := by omega
  have hs : S 48 0 = some (.inr (0, L, .inl xs)) := by
    rw [h48 48 (by decide)]
    rfl
  have kk := k_again hv hn5 (xs (4 * n + 1))
  have m1 := nK_mono kk.2
  have m2 := nS_mono kk.2
  generalize hr : s_again d (xs (4 * n + 1)) = r at kk m1 m2
  have h3 : (r.1.2 5).length ≤ 3000 := by
    rw [← hr]
    exact ag_cap h5 _
  have m3 := nK_mono h3
  have m4 := nS_mono h3
  obtain ⟨MC, hMC⟩ : ∃ MC, MC = 2 + (nK (r.1.2 5).length - nK (d.2 5).length) := ⟨_, rfl⟩
  obtain ⟨MS, hMS⟩ : ∃ MS, MS = 12 + (nS (r.1.2 5).length - nS (d.2 5).length) := ⟨_, rfl⟩
  by_cases hz : ∃ M, M < 4 ∧ xs (4 * n + 1) = Int32.ofNat M ∧ d.1 10 M = 0
  · exact op_again0 hl hn hi hL nx j5 j6 hz
  have bK : ∀ M, M < 4 → xs (4 * n + 1) = Int32.ofNat M → 2 + (nK ((dagS M d (voidsOf (d.2 M) (Int32.ofNat M))).2 5).length - nK (d.2 5).length) ≤ MC := fun M hM e => by
    rw [hMC, ← hr, e, s_again_ok hM, dagain_on fun z => hz ⟨M, hM, e, z⟩]
    exact Nat.le_refl _
  have bS : ∀ M, M < 4 → xs (4 * n + 1) = Int32.ofNat M → 12 + (nS ((dagS M d (voidsOf (d.2 M) (Int32.ofNat M))).2 5).length - nS (d.2 5).length) ≤ MS := fun M hM e => by
    rw [hMS, ← hr, e, s_again_ok hM, dagain_on fun z => hz ⟨M, hM, e, z⟩]
    exact Nat.le_refl _
  refine x_go.run mn_L_law 80 ?_
  refine ⟨L, xs, hs, sc_in hn hi hL (c := 1) (by decide), ?_⟩
  rw [show xs (Int32.ofNat (4 * n) + 1).toNatClampNeg = _ from sc_at hn (c := 1) (by decide) xs]
  refine ⟨nl rfl, rfl, nl rfl, MC, MS, by show MC ≤ u; omega, by show MS ≤ w; omega, L_again (mc := MC) (ms := MS) bK bS (by omega) (by omega) hK hro h5 ho (hr.symm ▸ fun S1 fo1 k1 f1 o1 v1 => ?_)⟩
  have hs1 : S1 48 0 = some (.inr (0, L, .inl xs)) := by
    rw [f1 48 (by omega)]
    exact hs
  have h481 : ∀ k, 48 ≤ k → S1 k = st_S L xs k := fun k hk => (f1 k (by omega)).trans (h48 k hk)
  have r1 : RM g S1 := hR.keep (f1 15 (by omega)) (f1 16 (by omega)) (f1 17 (by omega))
  have x1 : RX S1 := hX.eq (f1 19 (by omega))
  have oo : outA S1 := ⟨fo1, o1⟩
  refine ⟨L, xs, hs1, sc_in hn hi hL (c := 1) (by decide), ?_⟩
  rw [show xs (Int32.ofNat (4 * n) + 1).toNatClampNeg = _ from sc_at hn (c := 1) (by decide) xs]
  refine ⟨nl rfl, ⟨_, r1.1⟩, rfl, nl rfl, 0, 0, by show 0 ≤ u - MC; omega, by show 0 ≤ w - MS; omega, R_again r1 hD x1  (hr.symm ▸ fun g2 S2 r2 d2 t2 f2 x2 => ?_)⟩
  refine ⟨nl rfl, ⟨_, r2.1⟩, rfl, nl rfl, 0, 0, Nat.zero_le _, Nat.zero_le _, r_thrown r2 ?_⟩
  rw [t2]
  refine ⟨fun _ => ?_, fun c => (c rfl).elim⟩
  have ko : outA S2 := by
    obtain ⟨f, hf⟩ := oo
    exact ⟨f, by rw [f2 30 (by omega)]; exact hf⟩
  have fin : ∀ (j5 j6 : Option XV), x_go b_L_law st_P 1143 [some (xv_r 48 0), some (xv_r 0 0), some (xv_r 15 0), some (xv_r 30 0), some (xv_i (Int32.ofNat (4 * n))), j5, j6] [] S2 (u - MC - 0 - 0) (w - MS - 0 - 0) := fun j5 j6 => nx _ S2 _ _ j5 j6 (hl.next hn kk (k1.of fun k hk => f2 k (by omega)) ⟨g2, r2, d2⟩ x2 ko (fun k hk => (f2 k (by omega)).trans (f1 k (by omega))) (by omega) (by omega))
  refine ⟨fun _ => x_go.back mn_L_law (x_go.run mn_L_law 1 (fin _ _)), fun c => ?_⟩
  have v1 := v1 (Classical.not_not.mp c)
  refine ⟨nl rfl, 1, fo1, by rw [f2 30 (by omega)]; exact o1, z_in (k := 0) (by decide) (by decide), ?_⟩
  rw [show fo1 (Int32.toNatClampNeg 0) = _ from v1]
  refine ⟨fun _ => x_go.back mn_L_law (x_go.run mn_L_law 1 (fin _ _)), fun c => (c (lg_self _)).elim⟩

set_option maxRecDepth 100000 in
set_option maxHeartbeats 4000000 in
theorem op_settle (hl : LG L xs n d S u w) (hn : n < 512) (hi : 4 * n + 4 ≤ L) (hL : L ≤ 2048) (nx : LNx L xs n) (j5 j6 : Option XV) : x_go b_L_law st_P 403 [some (xv_r 48 0), some (xv_r 0 0), some (xv_r 15 0), some (xv_r 30 0), some (xv_i (Int32.ofNat (4 * n))), j5, j6] [] S u w := by
  obtain ⟨hK, ⟨g, hR, hD⟩, hX, ho, h48, hv, hu, hw⟩ := id hl
  have hro := ro_st h48
  have h5 : (d.2 5).length ≤ 3000 := hD.2.2.2.2.1
  have hn5 : n ≤ 512 := by omega
  have hs : S 48 0 = some (.inr (0, L, .inl xs)) := by
    rw [h48 48 (by decide)]
    rfl
  have kk := k_settle hv hn5 (xs (4 * n + 1))
  have m1 := nK_mono kk.2
  have m2 := nS_mono kk.2
  generalize hr : s_settle d (xs (4 * n + 1)) = r at kk m1 m2
  refine x_go.run mn_L_law 80 ?_
  refine ⟨L, xs, hs, sc_in hn hi hL (c := 1) (by decide), ?_⟩
  rw [show xs (Int32.ofNat (4 * n) + 1).toNatClampNeg = _ from sc_at hn (c := 1) (by decide) xs]
  refine ⟨nl rfl, rfl, nl rfl, 8, 7000, by show 8 ≤ u; omega, by show 7000 ≤ w; omega, L_settle hK hro h5 ho (hr.symm ▸ fun S1 fo1 k1 f1 o1 v1 => ?_)⟩
  have hs1 : S1 48 0 = some (.inr (0, L, .inl xs)) := by
    rw [f1 48 (by omega)]
    exact hs
  have h481 : ∀ k, 48 ≤ k → S1 k = st_S L xs k := fun k hk => (f1 k (by omega)).trans (h48 k hk)
  have r1 : RM g S1 := hR.keep (f1 15 (by omega)) (f1 16 (by omega)) (f1 17 (by omega))
  have x1 : RX S1 := hX.eq (f1 19 (by omega))
  have oo : outA S1 := ⟨fo1, o1⟩
  refine ⟨L, xs, hs1, sc_in hn hi hL (c := 1) (by decide), ?_⟩
  rw [show xs (Int32.ofNat (4 * n) + 1).toNatClampNeg = _ from sc_at hn (c := 1) (by decide) xs]
  refine ⟨nl rfl, ⟨_, r1.1⟩, rfl, nl rfl, 0, 0, by show 0 ≤ u - 8; omega, by show 0 ≤ w - 7000; omega, R_settle r1 hD x1  (hr.symm ▸ fun g2 S2 r2 d2 t2 f2 x2 => ?_)⟩
  refine ⟨nl rfl, ⟨_, r2.1⟩, rfl, nl rfl, 0, 0, Nat.zero_le _, Nat.zero_le _, r_thrown r2 ?_⟩
  rw [t2]
  refine ⟨fun _ => ?_, fun c => (c rfl).elim⟩
  have ko : outA S2 := by
    obtain ⟨f, hf⟩ := oo
    exact ⟨f, by rw [f2 30 (by omega)]; exact hf⟩
  have fin : ∀ (j5 j6 : Option XV), x_go b_L_law st_P 1143 [some (xv_r 48 0), some (xv_r 0 0), some (xv_r 15 0), some (xv_r 30 0), some (xv_i (Int32.ofNat (4 * n))), j5, j6] [] S2 (u - 8 - 0 - 0) (w - 7000 - 0 - 0) := fun j5 j6 => nx _ S2 _ _ j5 j6 (hl.next hn kk (k1.of fun k hk => f2 k (by omega)) ⟨g2, r2, d2⟩ x2 ko (fun k hk => (f2 k (by omega)).trans (f1 k (by omega))) (by omega) (by omega))
  refine ⟨fun _ => x_go.back mn_L_law (x_go.run mn_L_law 1 (fin _ _)), fun c => ?_⟩
  have v1 := v1 (Classical.not_not.mp c)
  refine ⟨nl rfl, 1, fo1, by rw [f2 30 (by omega)]; exact o1, z_in (k := 0) (by decide) (by decide), ?_⟩
  rw [show fo1 (Int32.toNatClampNeg 0) = _ from v1]
  refine ⟨fun _ => x_go.back mn_L_law (x_go.run mn_L_law 1 (fin _ _)), fun c => (c (lg_self _)).elim⟩

set_option maxRecDepth 100000 in
set_option maxHeartbeats 4000000 in
theorem op_deliver (hl : LG L xs n d S u w) (hn : n < 512) (hi : 4 * n + 4 ≤ L) (hL : L ≤ 2048) (nx : LNx L xs n) (j5 j6 : Option XV) : x_go b_L_law st_P 459 [some (xv_r 48 0), some (xv_r 0 0), some (xv_r 15 0), some (xv_r 30 0), some (xv_i (Int32.ofNat (4 * n))), j5, j6] [] S u w := by
  obtain ⟨hK, ⟨g, hR, hD⟩, hX, ho, h48, hv, hu, hw⟩ := id hl
  have hro := ro_st h48
  have h5 : (d.2 5).length ≤ 3000 := hD.2.2.2.2.1
  have hn5 : n ≤ 512 := by omega
  have hs : S 48 0 = some (.inr (0, L, .inl xs)) := by
    rw [h48 48 (by decide)]
    rfl
  have kk := k_deliver hv hn5 h5 (xs (4 * n + 1))
  have m1 := nK_mono kk.2
  have m2 := nS_mono kk.2
  generalize hr : s_deliver d (xs (4 * n + 1)) = r at kk m1 m2
  refine x_go.run mn_L_law 80 ?_
  refine ⟨L, xs, hs, sc_in hn hi hL (c := 1) (by decide), ?_⟩
  rw [show xs (Int32.ofNat (4 * n) + 1).toNatClampNeg = _ from sc_at hn (c := 1) (by decide) xs]
  refine ⟨nl rfl, rfl, nl rfl, 13, 10265, by show 13 ≤ u; omega, by show 10265 ≤ w; omega, L_deliver hK hro hv.1 hn5 h5 ho (hr.symm ▸ fun S1 fo1 k1 f1 o1 v1 => ?_)⟩
  have hs1 : S1 48 0 = some (.inr (0, L, .inl xs)) := by
    rw [f1 48 (by omega)]
    exact hs
  have h481 : ∀ k, 48 ≤ k → S1 k = st_S L xs k := fun k hk => (f1 k (by omega)).trans (h48 k hk)
  have r1 : RM g S1 := hR.keep (f1 15 (by omega)) (f1 16 (by omega)) (f1 17 (by omega))
  have x1 : RX S1 := hX.eq (f1 19 (by omega))
  have oo : outA S1 := ⟨fo1, o1⟩
  refine ⟨L, xs, hs1, sc_in hn hi hL (c := 1) (by decide), ?_⟩
  rw [show xs (Int32.ofNat (4 * n) + 1).toNatClampNeg = _ from sc_at hn (c := 1) (by decide) xs]
  refine ⟨nl rfl, ⟨_, r1.1⟩, rfl, nl rfl, 3, 18, by show 3 ≤ u - 13; omega, by show 18 ≤ w - 10265; omega, R_deliver r1 hD x1 (ro_st h481) hv.1 hn5 h5 (hr.symm ▸ fun g2 S2 r2 d2 t2 f2 x2 => ?_)⟩
  refine ⟨nl rfl, ⟨_, r2.1⟩, rfl, nl rfl, 0, 0, Nat.zero_le _, Nat.zero_le _, r_thrown r2 ?_⟩
  rw [t2]
  refine ⟨fun _ => ?_, fun c => (c rfl).elim⟩
  have ko : outA S2 := by
    obtain ⟨f, hf⟩ := oo
    exact ⟨f, by rw [f2 30 (by omega)]; exact hf⟩
  have fin : ∀ (j5 j6 : Option XV), x_go b_L_law st_P 1143 [some (xv_r 48 0), some (xv_r 0 0), some (xv_r 15 0), some (xv_r 30 0), some (xv_i (Int32.ofNat (4 * n))), j5, j6] [] S2 (u - 13 - 3 - 0) (w - 10265 - 18 - 0) := fun j5 j6 => nx _ S2 _ _ j5 j6 (hl.next hn kk (k1.of fun k hk => f2 k (by omega)) ⟨g2, r2, d2⟩ x2 ko (fun k hk => (f2 k (by omega)).trans (f1 k (by omega))) (by omega) (by omega))
  refine ⟨fun _ => x_go.back mn_L_law (x_go.run mn_L_law 1 (fin _ _)), fun c => ?_⟩
  have v1 := v1 (Classical.not_not.mp c)
  refine ⟨nl rfl, 1, fo1, by rw [f2 30 (by omega)]; exact o1, z_in (k := 0) (by decide) (by decide), ?_⟩
  rw [show fo1 (Int32.toNatClampNeg 0) = _ from v1]
  refine ⟨fun _ => x_go.back mn_L_law (x_go.run mn_L_law 1 (fin _ _)), fun c => (c (lg_self _)).elim⟩

set_option maxRecDepth 100000 in
set_option maxHeartbeats 4000000 in
theorem op_jam (hl : LG L xs n d S u w) (hn : n < 512) (hi : 4 * n + 4 ≤ L) (hL : L ≤ 2048) (nx : LNx L xs n) (j5 j6 : Option XV) : x_go b_L_law st_P 515 [some (xv_r 48 0), some (xv_r 0 0), some (xv_r 15 0), some (xv_r 30 0), some (xv_i (Int32.ofNat (4 * n))), j5, j6] [] S u w := by
  obtain ⟨hK, ⟨g, hR, hD⟩, hX, ho, h48, hv, hu, hw⟩ := id hl
  have hro := ro_st h48
  have h5 : (d.2 5).length ≤ 3000 := hD.2.2.2.2.1
  have hn5 : n ≤ 512 := by omega
  have hs : S 48 0 = some (.inr (0, L, .inl xs)) := by
    rw [h48 48 (by decide)]
    rfl
  have kk := k_jam hv  (xs (4 * n + 1)) (xs (4 * n + 2))
  have m1 := nK_mono kk.2
  have m2 := nS_mono kk.2
  generalize hr : s_jam d (xs (4 * n + 1)) (xs (4 * n + 2)) = r at kk m1 m2
  refine x_go.run mn_L_law 80 ?_
  refine ⟨L, xs, hs, sc_in hn hi hL (c := 1) (by decide), L, xs, hs, sc_in hn hi hL (c := 2) (by decide), ?_⟩
  rw [show xs (Int32.ofNat (4 * n) + 1).toNatClampNeg = _ from sc_at hn (c := 1) (by decide) xs, show xs (Int32.ofNat (4 * n) + 2).toNatClampNeg = _ from sc_at hn (c := 2) (by decide) xs]
  refine ⟨nl rfl, rfl, nl rfl, 3, 18, by show 3 ≤ u; omega, by show 18 ≤ w; omega, L_jam hK (hr.symm ▸ fun S1 k1 f1 => ?_)⟩
  have hs1 : S1 48 0 = some (.inr (0, L, .inl xs)) := by
    rw [f1 48 (by omega)]
    exact hs
  have h481 : ∀ k, 48 ≤ k → S1 k = st_S L xs k := fun k hk => (f1 k (by omega)).trans (h48 k hk)
  have r1 : RM g S1 := hR.keep (f1 15 (by omega)) (f1 16 (by omega)) (f1 17 (by omega))
  have x1 : RX S1 := hX.eq (f1 19 (by omega))
  have oo : outA S1 := ho.fc f1
  refine ⟨L, xs, hs1, sc_in hn hi hL (c := 1) (by decide), L, xs, hs1, sc_in hn hi hL (c := 2) (by decide), ?_⟩
  rw [show xs (Int32.ofNat (4 * n) + 1).toNatClampNeg = _ from sc_at hn (c := 1) (by decide) xs, show xs (Int32.ofNat (4 * n) + 2).toNatClampNeg = _ from sc_at hn (c := 2) (by decide) xs]
  refine ⟨nl rfl, ⟨_, r1.1⟩, rfl, nl rfl, 0, 0, by show 0 ≤ u - 3; omega, by show 0 ≤ w - 18; omega, R_jam r1 hD x1  (hr.symm ▸ fun g2 S2 r2 d2 t2 f2 x2 => ?_)⟩
  refine ⟨nl rfl, ⟨_, r2.1⟩, rfl, nl rfl, 0, 0, Nat.zero_le _, Nat.zero_le _, r_thrown r2 ?_⟩
  rw [t2]
  refine ⟨fun _ => ?_, fun c => (c rfl).elim⟩
  have ko : outA S2 := by
    obtain ⟨f, hf⟩ := oo
    exact ⟨f, by rw [f2 30 (by omega)]; exact hf⟩
  have fin : ∀ (j5 j6 : Option XV), x_go b_L_law st_P 1143 [some (xv_r 48 0), some (xv_r 0 0), some (xv_r 15 0), some (xv_r 30 0), some (xv_i (Int32.ofNat (4 * n))), j5, j6] [] S2 (u - 3 - 0 - 0) (w - 18 - 0 - 0) := fun j5 j6 => nx _ S2 _ _ j5 j6 (hl.next hn kk (k1.of fun k hk => f2 k (by omega)) ⟨g2, r2, d2⟩ x2 ko (fun k hk => (f2 k (by omega)).trans (f1 k (by omega))) (by omega) (by omega))
  exact x_go.back mn_L_law (x_go.run mn_L_law 1 (fin _ _))

set_option maxRecDepth 100000 in
set_option maxHeartbeats 4000000 in
theorem op_load (hl : LG L xs n d S u w) (hn : n < 512) (hi : 4 * n + 4 ≤ L) (hL : L ≤ 2048) (nx : LNx L xs n) (j5 j6 : Option XV) : x_go b_L_law st_P 563 [some (xv_r 48 0), some (xv_r 0 0), some (xv_r 15 0), some (xv_r 30 0), some (xv_i (Int32.ofNat (4 * n))), j5, j6] [] S u w := by
  obtain ⟨hK, ⟨g, hR, hD⟩, hX, ho, h48, hv, hu, hw⟩ := id hl
  have hro := ro_st h48
  have h5 : (d.2 5).length ≤ 3000 := hD.2.2.2.2.1
  have hn5 : n ≤ 512 := by omega
  have hs : S 48 0 = some (.inr (0, L, .inl xs)) := by
    rw [h48 48 (by decide)]
    rfl
  have kk := k_load hv  (xs (4 * n + 1)) (xs (4 * n + 2)) (xs (4 * n + 3))
  have m1 := nK_mono kk.2
  have m2 := nS_mono kk.2
  generalize hr : s_load d (xs (4 * n + 1)) (xs (4 * n + 2)) (xs (4 * n + 3)) = r at kk m1 m2
  refine x_go.run mn_L_law 80 ?_
  refine ⟨L, xs, hs, sc_in hn hi hL (c := 1) (by decide), L, xs, hs, sc_in hn hi hL (c := 2) (by decide), L, xs, hs, sc_in hn hi hL (c := 3) (by decide), ?_⟩
  rw [show xs (Int32.ofNat (4 * n) + 1).toNatClampNeg = _ from sc_at hn (c := 1) (by decide) xs, show xs (Int32.ofNat (4 * n) + 2).toNatClampNeg = _ from sc_at hn (c := 2) (by decide) xs, show xs (Int32.ofNat (4 * n) + 3).toNatClampNeg = _ from sc_at hn (c := 3) (by decide) xs]
  refine ⟨nl rfl, rfl, nl rfl, 3, 18, by show 3 ≤ u; omega, by show 18 ≤ w; omega, L_load hK ho (hr.symm ▸ fun S1 fo1 k1 f1 o1 v1 => ?_)⟩
  have hs1 : S1 48 0 = some (.inr (0, L, .inl xs)) := by
    rw [f1 48 (by omega)]
    exact hs
  have h481 : ∀ k, 48 ≤ k → S1 k = st_S L xs k := fun k hk => (f1 k (by omega)).trans (h48 k hk)
  have r1 : RM g S1 := hR.keep (f1 15 (by omega)) (f1 16 (by omega)) (f1 17 (by omega))
  have x1 : RX S1 := hX.eq (f1 19 (by omega))
  have oo : outA S1 := ⟨fo1, o1⟩
  refine ⟨L, xs, hs1, sc_in hn hi hL (c := 1) (by decide), L, xs, hs1, sc_in hn hi hL (c := 2) (by decide), L, xs, hs1, sc_in hn hi hL (c := 3) (by decide), ?_⟩
  rw [show xs (Int32.ofNat (4 * n) + 1).toNatClampNeg = _ from sc_at hn (c := 1) (by decide) xs, show xs (Int32.ofNat (4 * n) + 2).toNatClampNeg = _ from sc_at hn (c := 2) (by decide) xs, show xs (Int32.ofNat (4 * n) + 3).toNatClampNeg = _ from sc_at hn (c := 3) (by decide) xs]
  refine ⟨nl rfl, ⟨_, r1.1⟩, rfl, nl rfl, 0, 0, by show 0 ≤ u - 3; omega, by show 0 ≤ w - 18; omega, R_load r1 hD x1  (hr.symm ▸ fun g2 S2 r2 d2 t2 f2 x2 => ?_)⟩
  refine ⟨nl rfl, ⟨_, r2.1⟩, rfl, nl rfl, 0, 0, Nat.zero_le _, Nat.zero_le _, r_thrown r2 ?_⟩
  rw [t2]
  refine ⟨fun _ => ?_, fun c => (c rfl).elim⟩
  have ko : outA S2 := by
    obtain ⟨f, hf⟩ := oo
    exact ⟨f, by rw [f2 30 (by omega)]; exact hf⟩
  have fin : ∀ (j5 j6 : Option XV), x_go b_L_law st_P 1143 [some (xv_r 48 0), some (xv_r 0 0), some (xv_r 15 0), some (xv_r 30 0), some (xv_i (Int32.ofNat (4 * n))), j5, j6] [] S2 (u - 3 - 0 - 0) (w - 18 - 0 - 0) := fun j5 j6 => nx _ S2 _ _ j5 j6 (hl.next hn kk (k1.of fun k hk => f2 k (by omega)) ⟨g2, r2, d2⟩ x2 ko (fun k hk => (f2 k (by omega)).trans (f1 k (by omega))) (by omega) (by omega))
  refine ⟨fun _ => x_go.back mn_L_law (x_go.run mn_L_law 1 (fin _ _)), fun c => ?_⟩
  have v1 := v1 (Classical.not_not.mp c)
  refine ⟨nl rfl, 1, fo1, by rw [f2 30 (by omega)]; exact o1, z_in (k := 0) (by decide) (by decide), ?_⟩
  rw [show fo1 (Int32.toNatClampNeg 0) = _ from v1]
  refine ⟨fun _ => x_go.back mn_L_law (x_go.run mn_L_law 1 (fin _ _)), fun c => (c (lg_self _)).elim⟩

set_option maxRecDepth 100000 in
set_option maxHeartbeats 4000000 in
theorem op_power (hl : LG L xs n d S u w) (hn : n < 512) (hi : 4 * n + 4 ≤ L) (hL : L ≤ 2048) (nx : LNx L xs n) (j5 j6 : Option XV) : x_go b_L_law st_P 643 [some (xv_r 48 0), some (xv_r 0 0), some (xv_r 15 0), some (xv_r 30 0), some (xv_i (Int32.ofNat (4 * n))), j5, j6] [] S u w := by
  obtain ⟨hK, ⟨g, hR, hD⟩, hX, ho, h48, hv, hu, hw⟩ := id hl
  have hro := ro_st h48
  have h5 : (d.2 5).length ≤ 3000 := hD.2.2.2.2.1
  have hn5 : n ≤ 512 := by omega
  have hs : S 48 0 = some (.inr (0, L, .inl xs)) := by
    rw [h48 48 (by decide)]
    rfl
  have kk := k_power hv  (xs (4 * n + 1)) (xs (4 * n + 2)) (xs (4 * n + 3))
  have m1 := nK_mono kk.2
  have m2 := nS_mono kk.2
  generalize hr : s_power d (xs (4 * n + 1)) (xs (4 * n + 2)) (xs (4 * n + 3)) = r at kk m1 m2
  refine x_go.run mn_L_law 80 ?_
  refine ⟨L, xs, hs, sc_in hn hi hL (c := 1) (by decide), L, xs, hs, sc_in hn hi hL (c := 2) (by decide), L, xs, hs, sc_in hn hi hL (c := 3) (by decide), ?_⟩
  rw [show xs (Int32.ofNat (4 * n) + 1).toNatClampNeg = _ from sc_at hn (c := 1) (by decide) xs, show xs (Int32.ofNat (4 * n) + 2).toNatClampNeg = _ from sc_at hn (c := 2) (by decide) xs, show xs (Int32.ofNat (4 * n) + 3).toNatClampNeg = _ from sc_at hn (c := 3) (by decide) xs]
  refine ⟨nl rfl, rfl, nl rfl, 3, 18, by show 3 ≤ u; omega, by show 18 ≤ w; omega, L_power hK (hr.symm ▸ fun S1 k1 f1 => ?_)⟩
  have hs1 : S1 48 0 = some (.inr (0, L, .inl xs)) := by
    rw [f1 48 (by omega)]
    exact hs
  have h481 : ∀ k, 48 ≤ k → S1 k = st_S L xs k := fun k hk => (f1 k (by omega)).trans (h48 k hk)
  have r1 : RM g S1 := hR.keep (f1 15 (by omega)) (f1 16 (by omega)) (f1 17 (by omega))
  have x1 : RX S1 := hX.eq (f1 19 (by omega))
  have oo : outA S1 := ho.fc f1
  refine ⟨L, xs, hs1, sc_in hn hi hL (c := 1) (by decide), L, xs, hs1, sc_in hn hi hL (c := 2) (by decide), L, xs, hs1, sc_in hn hi hL (c := 3) (by decide), ?_⟩
  rw [show xs (Int32.ofNat (4 * n) + 1).toNatClampNeg = _ from sc_at hn (c := 1) (by decide) xs, show xs (Int32.ofNat (4 * n) + 2).toNatClampNeg = _ from sc_at hn (c := 2) (by decide) xs, show xs (Int32.ofNat (4 * n) + 3).toNatClampNeg = _ from sc_at hn (c := 3) (by decide) xs]
  refine ⟨nl rfl, ⟨_, r1.1⟩, rfl, nl rfl, 0, 0, by show 0 ≤ u - 3; omega, by show 0 ≤ w - 18; omega, R_power r1 hD x1  (hr.symm ▸ fun g2 S2 r2 d2 t2 f2 x2 => ?_)⟩
  refine ⟨nl rfl, ⟨_, r2.1⟩, rfl, nl rfl, 0, 0, Nat.zero_le _, Nat.zero_le _, r_thrown r2 ?_⟩
  rw [t2]
  refine ⟨fun _ => ?_, fun c => (c rfl).elim⟩
  have ko : outA S2 := by
    obtain ⟨f, hf⟩ := oo
    exact ⟨f, by rw [f2 30 (by omega)]; exact hf⟩
  have fin : ∀ (j5 j6 : Option XV), x_go b_L_law st_P 1143 [some (xv_r 48 0), some (xv_r 0 0), some (xv_r 15 0), some (xv_r 30 0), some (xv_i (Int32.ofNat (4 * n))), j5, j6] [] S2 (u - 3 - 0 - 0) (w - 18 - 0 - 0) := fun j5 j6 => nx _ S2 _ _ j5 j6 (hl.next hn kk (k1.of fun k hk => f2 k (by omega)) ⟨g2, r2, d2⟩ x2 ko (fun k hk => (f2 k (by omega)).trans (f1 k (by omega))) (by omega) (by omega))
  exact x_go.back mn_L_law (x_go.run mn_L_law 1 (fin _ _))

set_option maxRecDepth 100000 in
set_option maxHeartbeats 4000000 in
theorem op_on (hl : LG L xs n d S u w) (hn : n < 512) (hi : 4 * n + 4 ≤ L) (hL : L ≤ 2048) (nx : LNx L xs n) (j5 j6 : Option XV) : x_go b_L_law st_P 703 [some (xv_r 48 0), some (xv_r 0 0), some (xv_r 15 0), some (xv_r 30 0), some (xv_i (Int32.ofNat (4 * n))), j5, j6] [] S u w := by
  obtain ⟨hK, ⟨g, hR, hD⟩, hX, ho, h48, hv, hu, hw⟩ := id hl
  have hro := ro_st h48
  have h5 : (d.2 5).length ≤ 3000 := hD.2.2.2.2.1
  have hn5 : n ≤ 512 := by omega
  have hs : S 48 0 = some (.inr (0, L, .inl xs)) := by
    rw [h48 48 (by decide)]
    rfl
  have kk := k_on hv hn5 (xs (4 * n + 1))
  have m1 := nK_mono kk.2
  have m2 := nS_mono kk.2
  generalize hr : s_on d (xs (4 * n + 1)) = r at kk m1 m2
  refine x_go.run mn_L_law 80 ?_
  refine ⟨L, xs, hs, sc_in hn hi hL (c := 1) (by decide), ?_⟩
  rw [show xs (Int32.ofNat (4 * n) + 1).toNatClampNeg = _ from sc_at hn (c := 1) (by decide) xs]
  refine ⟨nl rfl, rfl, nl rfl, 810, 11803, by show 810 ≤ u; omega, by show 11803 ≤ w; omega, L_on hK hro hv.1 hn5 h5 ho (hr.symm ▸ fun S1 fo1 k1 f1 o1 v1 => ?_)⟩
  have hs1 : S1 48 0 = some (.inr (0, L, .inl xs)) := by
    rw [f1 48 (by omega)]
    exact hs
  have h481 : ∀ k, 48 ≤ k → S1 k = st_S L xs k := fun k hk => (f1 k (by omega)).trans (h48 k hk)
  have r1 : RM g S1 := hR.keep (f1 15 (by omega)) (f1 16 (by omega)) (f1 17 (by omega))
  have x1 : RX S1 := hX.eq (f1 19 (by omega))
  have oo : outA S1 := ⟨fo1, o1⟩
  refine ⟨L, xs, hs1, sc_in hn hi hL (c := 1) (by decide), ?_⟩
  rw [show xs (Int32.ofNat (4 * n) + 1).toNatClampNeg = _ from sc_at hn (c := 1) (by decide) xs]
  refine ⟨nl rfl, ⟨_, r1.1⟩, rfl, nl rfl, 2, 12, by show 2 ≤ u - 810; omega, by show 12 ≤ w - 11803; omega, R_on r1 hD x1 hv.1 hn5 (hr.symm ▸ fun g2 S2 r2 d2 t2 f2 x2 => ?_)⟩
  refine ⟨nl rfl, ⟨_, r2.1⟩, rfl, nl rfl, 0, 0, Nat.zero_le _, Nat.zero_le _, r_thrown r2 ?_⟩
  rw [t2]
  refine ⟨fun _ => ?_, fun c => (c rfl).elim⟩
  have ko : outA S2 := by
    obtain ⟨f, hf⟩ := oo
    exact ⟨f, by rw [f2 30 (by omega)]; exact hf⟩
  have fin : ∀ (j5 j6 : Option XV), x_go b_L_law st_P 1143 [some (xv_r 48 0), some (xv_r 0 0), some (xv_r 15 0), some (xv_r 30 0), some (xv_i (Int32.ofNat (4 * n))), j5, j6] [] S2 (u - 810 - 2 - 0) (w - 11803 - 12 - 0) := fun j5 j6 => nx _ S2 _ _ j5 j6 (hl.next hn kk (k1.of fun k hk => f2 k (by omega)) ⟨g2, r2, d2⟩ x2 ko (fun k hk => (f2 k (by omega)).trans (f1 k (by omega))) (by omega) (by omega))
  refine ⟨fun _ => x_go.back mn_L_law (x_go.run mn_L_law 1 (fin _ _)), fun c => ?_⟩
  have v1 := v1 (Classical.not_not.mp c)
  refine ⟨nl rfl, 1, fo1, by rw [f2 30 (by omega)]; exact o1, z_in (k := 0) (by decide) (by decide), ?_⟩
  rw [show fo1 (Int32.toNatClampNeg 0) = _ from v1]
  refine ⟨fun _ => x_go.back mn_L_law (x_go.run mn_L_law 1 (fin _ _)), fun c => (c (lg_self _)).elim⟩

set_option maxRecDepth 100000 in
set_option maxHeartbeats 4000000 in
theorem op_told (hl : LG L xs n d S u w) (hn : n < 512) (hi : 4 * n + 4 ≤ L) (hL : L ≤ 2048) (nx : LNx L xs n) (j5 j6 : Option XV) : x_go b_L_law st_P 759 [some (xv_r 48 0), some (xv_r 0 0), some (xv_r 15 0), some (xv_r 30 0), some (xv_i (Int32.ofNat (4 * n))), j5, j6] [] S u w := by
  obtain ⟨hK, ⟨g, hR, hD⟩, hX, ho, h48, hv, hu, hw⟩ := id hl
  have hro := ro_st h48
  have h5 : (d.2 5).length ≤ 3000 := hD.2.2.2.2.1
  have hn5 : n ≤ 512 := by omega
  have hs : S 48 0 = some (.inr (0, L, .inl xs)) := by
    rw [h48 48 (by decide)]
    rfl
  have kk := k_told hv  (xs (4 * n + 1)) (xs (4 * n + 2))
  have m1 := nK_mono kk.2
  have m2 := nS_mono kk.2
  generalize hr : s_told d (xs (4 * n + 1)) (xs (4 * n + 2)) = r at kk m1 m2
  refine x_go.run mn_L_law 80 ?_
  refine ⟨L, xs, hs, sc_in hn hi hL (c := 1) (by decide), L, xs, hs, sc_in hn hi hL (c := 2) (by decide), ?_⟩
  rw [show xs (Int32.ofNat (4 * n) + 1).toNatClampNeg = _ from sc_at hn (c := 1) (by decide) xs, show xs (Int32.ofNat (4 * n) + 2).toNatClampNeg = _ from sc_at hn (c := 2) (by decide) xs]
  refine ⟨nl rfl, rfl, nl rfl, 3, 18, by show 3 ≤ u; omega, by show 18 ≤ w; omega, L_told hK hro ho (hr.symm ▸ fun S1 fo1 k1 f1 o1 v1 => ?_)⟩
  have hs1 : S1 48 0 = some (.inr (0, L, .inl xs)) := by
    rw [f1 48 (by omega)]
    exact hs
  have h481 : ∀ k, 48 ≤ k → S1 k = st_S L xs k := fun k hk => (f1 k (by omega)).trans (h48 k hk)
  have r1 : RM g S1 := hR.keep (f1 15 (by omega)) (f1 16 (by omega)) (f1 17 (by omega))
  have x1 : RX S1 := hX.eq (f1 19 (by omega))
  have oo : outA S1 := ⟨fo1, o1⟩
  refine ⟨L, xs, hs1, sc_in hn hi hL (c := 1) (by decide), L, xs, hs1, sc_in hn hi hL (c := 2) (by decide), ?_⟩
  rw [show xs (Int32.ofNat (4 * n) + 1).toNatClampNeg = _ from sc_at hn (c := 1) (by decide) xs, show xs (Int32.ofNat (4 * n) + 2).toNatClampNeg = _ from sc_at hn (c := 2) (by decide) xs]
  refine ⟨nl rfl, ⟨_, r1.1⟩, rfl, nl rfl, 0, 0, by show 0 ≤ u - 3; omega, by show 0 ≤ w - 18; omega, R_told r1 hD x1  (hr.symm ▸ fun g2 S2 r2 d2 t2 f2 x2 => ?_)⟩
  refine ⟨nl rfl, ⟨_, r2.1⟩, rfl, nl rfl, 0, 0, Nat.zero_le _, Nat.zero_le _, r_thrown r2 ?_⟩
  rw [t2]
  refine ⟨fun _ => ?_, fun c => (c rfl).elim⟩
  have ko : outA S2 := by
    obtain ⟨f, hf⟩ := oo
    exact ⟨f, by rw [f2 30 (by omega)]; exact hf⟩
  have fin : ∀ (j5 j6 : Option XV), x_go b_L_law st_P 1143 [some (xv_r 48 0), some (xv_r 0 0), some (xv_r 15 0), some (xv_r 30 0), some (xv_i (Int32.ofNat (4 * n))), j5, j6] [] S2 (u - 3 - 0 - 0) (w - 18 - 0 - 0) := fun j5 j6 => nx _ S2 _ _ j5 j6 (hl.next hn kk (k1.of fun k hk => f2 k (by omega)) ⟨g2, r2, d2⟩ x2 ko (fun k hk => (f2 k (by omega)).trans (f1 k (by omega))) (by omega) (by omega))
  refine ⟨fun _ => x_go.back mn_L_law (x_go.run mn_L_law 1 (fin _ _)), fun c => ?_⟩
  have v1 := v1 (Classical.not_not.mp c)
  refine ⟨nl rfl, 1, fo1, by rw [f2 30 (by omega)]; exact o1, z_in (k := 0) (by decide) (by decide), ?_⟩
  rw [show fo1 (Int32.toNatClampNeg 0) = _ from v1]
  refine ⟨fun _ => x_go.back mn_L_law (x_go.run mn_L_law 1 (fin _ _)), fun c => (c (lg_self _)).elim⟩

set_option maxRecDepth 100000 in
set_option maxHeartbeats 4000000 in
theorem op_balance (hl : LG L xs n d S u w) (hn : n < 512) (hi : 4 * n + 4 ≤ L) (hL : L ≤ 2048) (nx : LNx L xs n) (j5 j6 : Option XV) : x_go b_L_law st_P 827 [some (xv_r 48 0), some (xv_r 0 0), some (xv_r 15 0), some (xv_r 30 0), some (xv_i (Int32.ofNat (4 * n))), j5, j6] [] S u w := by
  obtain ⟨hK, ⟨g, hR, hD⟩, hX, ho, h48, hv, hu, hw⟩ := id hl
  have hro := ro_st h48
  have h5 : (d.2 5).length ≤ 3000 := hD.2.2.2.2.1
  have hn5 : n ≤ 512 := by omega
  have hs : S 48 0 = some (.inr (0, L, .inl xs)) := by
    rw [h48 48 (by decide)]
    rfl
  have kk := k_balance hv  (xs (4 * n + 1))
  have m1 := nK_mono kk.2
  have m2 := nS_mono kk.2
  generalize hr : s_balance d (xs (4 * n + 1)) = r at kk m1 m2
  refine x_go.run mn_L_law 80 ?_
  refine ⟨L, xs, hs, sc_in hn hi hL (c := 1) (by decide), ?_⟩
  rw [show xs (Int32.ofNat (4 * n) + 1).toNatClampNeg = _ from sc_at hn (c := 1) (by decide) xs]
  refine ⟨nl rfl, rfl, nl rfl, 3, 18, by show 3 ≤ u; omega, by show 18 ≤ w; omega, L_balance hK hv.1 ho (hr.symm ▸ fun S1 fo1 k1 f1 o1 v1 => ?_)⟩
  have hs1 : S1 48 0 = some (.inr (0, L, .inl xs)) := by
    rw [f1 48 (by omega)]
    exact hs
  have h481 : ∀ k, 48 ≤ k → S1 k = st_S L xs k := fun k hk => (f1 k (by omega)).trans (h48 k hk)
  have r1 : RM g S1 := hR.keep (f1 15 (by omega)) (f1 16 (by omega)) (f1 17 (by omega))
  have x1 : RX S1 := hX.eq (f1 19 (by omega))
  have oo : outA S1 := ⟨fo1, o1⟩
  refine ⟨L, xs, hs1, sc_in hn hi hL (c := 1) (by decide), ?_⟩
  rw [show xs (Int32.ofNat (4 * n) + 1).toNatClampNeg = _ from sc_at hn (c := 1) (by decide) xs]
  refine ⟨nl rfl, ⟨_, r1.1⟩, rfl, nl rfl, 0, 0, by show 0 ≤ u - 3; omega, by show 0 ≤ w - 18; omega, R_balance r1 hD x1  (hr.symm ▸ fun g2 S2 r2 d2 t2 f2 x2 => ?_)⟩
  refine ⟨nl rfl, ⟨_, r2.1⟩, rfl, nl rfl, 0, 0, Nat.zero_le _, Nat.zero_le _, r_thrown r2 ?_⟩
  rw [t2]
  refine ⟨fun _ => ?_, fun c => (c rfl).elim⟩
  have ko : outA S2 := by
    obtain ⟨f, hf⟩ := oo
    exact ⟨f, by rw [f2 30 (by omega)]; exact hf⟩
  have fin : ∀ (j5 j6 : Option XV), x_go b_L_law st_P 1143 [some (xv_r 48 0), some (xv_r 0 0), some (xv_r 15 0), some (xv_r 30 0), some (xv_i (Int32.ofNat (4 * n))), j5, j6] [] S2 (u - 3 - 0 - 0) (w - 18 - 0 - 0) := fun j5 j6 => nx _ S2 _ _ j5 j6 (hl.next hn kk (k1.of fun k hk => f2 k (by omega)) ⟨g2, r2, d2⟩ x2 ko (fun k hk => (f2 k (by omega)).trans (f1 k (by omega))) (by omega) (by omega))
  refine ⟨fun _ => x_go.back mn_L_law (x_go.run mn_L_law 1 (fin _ _)), fun c => ?_⟩
  have v1 := v1 (Classical.not_not.mp c)
  refine ⟨nl rfl, 1, fo1, by rw [f2 30 (by omega)]; exact o1, z_in (k := 0) (by decide) (by decide), ?_⟩
  rw [show fo1 (Int32.toNatClampNeg 0) = _ from v1]
  refine ⟨fun _ => x_go.back mn_L_law (x_go.run mn_L_law 1 (fin _ _)), fun c => (c (lg_self _)).elim⟩

set_option maxRecDepth 100000 in
set_option maxHeartbeats 4000000 in
theorem op_taken (hl : LG L xs n d S u w) (hn : n < 512) (hi : 4 * n + 4 ≤ L) (hL : L ≤ 2048) (nx : LNx L xs n) (j5 j6 : Option XV) : x_go b_L_law st_P 883 [some (xv_r 48 0), some (xv_r 0 0), some (xv_r 15 0), some (xv_r 30 0), some (xv_i (Int32.ofNat (4 * n))), j5, j6] [] S u w := by
  obtain ⟨hK, ⟨g, hR, hD⟩, hX, ho, h48, hv, hu, hw⟩ := id hl
  have hro := ro_st h48
  have h5 : (d.2 5).length ≤ 3000 := hD.2.2.2.2.1
  have hn5 : n ≤ 512 := by omega
  have hs : S 48 0 = some (.inr (0, L, .inl xs)) := by
    rw [h48 48 (by decide)]
    rfl
  have kk := k_taken hv  (xs (4 * n + 1))
  have m1 := nK_mono kk.2
  have m2 := nS_mono kk.2
  generalize hr : s_taken d (xs (4 * n + 1)) = r at kk m1 m2
  refine x_go.run mn_L_law 80 ?_
  refine ⟨L, xs, hs, sc_in hn hi hL (c := 1) (by decide), ?_⟩
  rw [show xs (Int32.ofNat (4 * n) + 1).toNatClampNeg = _ from sc_at hn (c := 1) (by decide) xs]
  refine ⟨nl rfl, rfl, nl rfl, 3, 18, by show 3 ≤ u; omega, by show 18 ≤ w; omega, L_taken hK ho (hr.symm ▸ fun S1 fo1 k1 f1 o1 v1 => ?_)⟩
  have hs1 : S1 48 0 = some (.inr (0, L, .inl xs)) := by
    rw [f1 48 (by omega)]
    exact hs
  have h481 : ∀ k, 48 ≤ k → S1 k = st_S L xs k := fun k hk => (f1 k (by omega)).trans (h48 k hk)
  have r1 : RM g S1 := hR.keep (f1 15 (by omega)) (f1 16 (by omega)) (f1 17 (by omega))
  have x1 : RX S1 := hX.eq (f1 19 (by omega))
  have oo : outA S1 := ⟨fo1, o1⟩
  refine ⟨L, xs, hs1, sc_in hn hi hL (c := 1) (by decide), ?_⟩
  rw [show xs (Int32.ofNat (4 * n) + 1).toNatClampNeg = _ from sc_at hn (c := 1) (by decide) xs]
  refine ⟨nl rfl, ⟨_, r1.1⟩, rfl, nl rfl, 0, 0, by show 0 ≤ u - 3; omega, by show 0 ≤ w - 18; omega, R_taken r1 hD x1  (hr.symm ▸ fun g2 S2 r2 d2 t2 f2 x2 => ?_)⟩
  refine ⟨nl rfl, ⟨_, r2.1⟩, rfl, nl rfl, 0, 0, Nat.zero_le _, Nat.zero_le _, r_thrown r2 ?_⟩
  rw [t2]
  refine ⟨fun _ => ?_, fun c => (c rfl).elim⟩
  have ko : outA S2 := by
    obtain ⟨f, hf⟩ := oo
    exact ⟨f, by rw [f2 30 (by omega)]; exact hf⟩
  have fin : ∀ (j5 j6 : Option XV), x_go b_L_law st_P 1143 [some (xv_r 48 0), some (xv_r 0 0), some (xv_r 15 0), some (xv_r 30 0), some (xv_i (Int32.ofNat (4 * n))), j5, j6] [] S2 (u - 3 - 0 - 0) (w - 18 - 0 - 0) := fun j5 j6 => nx _ S2 _ _ j5 j6 (hl.next hn kk (k1.of fun k hk => f2 k (by omega)) ⟨g2, r2, d2⟩ x2 ko (fun k hk => (f2 k (by omega)).trans (f1 k (by omega))) (by omega) (by omega))
  refine ⟨fun _ => x_go.back mn_L_law (x_go.run mn_L_law 1 (fin _ _)), fun c => ?_⟩
  have v1 := v1 (Classical.not_not.mp c)
  refine ⟨nl rfl, 1, fo1, by rw [f2 30 (by omega)]; exact o1, z_in (k := 0) (by decide) (by decide), ?_⟩
  rw [show fo1 (Int32.toNatClampNeg 0) = _ from v1]
  refine ⟨fun _ => x_go.back mn_L_law (x_go.run mn_L_law 1 (fin _ _)), fun c => (c (lg_self _)).elim⟩

set_option maxRecDepth 100000 in
set_option maxHeartbeats 4000000 in
theorem op_byteAt (hl : LG L xs n d S u w) (hn : n < 512) (hi : 4 * n + 4 ≤ L) (hL : L ≤ 2048) (nx : LNx L xs n) (j5 j6 : Option XV) : x_go b_L_law st_P 939 [some (xv_r 48 0), some (xv_r 0 0), some (xv_r 15 0), some (xv_r 30 0), some (xv_i (Int32.ofNat (4 * n))), j5, j6] [] S u w := by
  obtain ⟨hK, ⟨g, hR, hD⟩, hX, ho, h48, hv, hu, hw⟩ := id hl
  have hro := ro_st h48
  have h5 : (d.2 5).length ≤ 3000 := hD.2.2.2.2.1
  have hn5 : n ≤ 512 := by omega
  have hs : S 48 0 = some (.inr (0, L, .inl xs)) := by
    rw [h48 48 (by decide)]
    rfl
  have kk := k_byteAt hv  (xs (4 * n + 1)) (xs (4 * n + 2))
  have m1 := nK_mono kk.2
  have m2 := nS_mono kk.2
  generalize hr : s_byteAt d (xs (4 * n + 1)) (xs (4 * n + 2)) = r at kk m1 m2
  refine x_go.run mn_L_law 80 ?_
  refine ⟨L, xs, hs, sc_in hn hi hL (c := 1) (by decide), L, xs, hs, sc_in hn hi hL (c := 2) (by decide), ?_⟩
  rw [show xs (Int32.ofNat (4 * n) + 1).toNatClampNeg = _ from sc_at hn (c := 1) (by decide) xs, show xs (Int32.ofNat (4 * n) + 2).toNatClampNeg = _ from sc_at hn (c := 2) (by decide) xs]
  refine ⟨nl rfl, rfl, nl rfl, 60, 2000, by show 60 ≤ u; omega, by show 2000 ≤ w; omega, L_byteAt hK hro hv.1 h5 ho (hr.symm ▸ fun S1 fo1 k1 f1 o1 v1 => ?_)⟩
  have hs1 : S1 48 0 = some (.inr (0, L, .inl xs)) := by
    rw [f1 48 (by omega)]
    exact hs
  have h481 : ∀ k, 48 ≤ k → S1 k = st_S L xs k := fun k hk => (f1 k (by omega)).trans (h48 k hk)
  have r1 : RM g S1 := hR.keep (f1 15 (by omega)) (f1 16 (by omega)) (f1 17 (by omega))
  have x1 : RX S1 := hX.eq (f1 19 (by omega))
  have oo : outA S1 := ⟨fo1, o1⟩
  refine ⟨L, xs, hs1, sc_in hn hi hL (c := 1) (by decide), L, xs, hs1, sc_in hn hi hL (c := 2) (by decide), ?_⟩
  rw [show xs (Int32.ofNat (4 * n) + 1).toNatClampNeg = _ from sc_at hn (c := 1) (by decide) xs, show xs (Int32.ofNat (4 * n) + 2).toNatClampNeg = _ from sc_at hn (c := 2) (by decide) xs]
  refine ⟨nl rfl, ⟨_, r1.1⟩, rfl, nl rfl, 0, 0, by show 0 ≤ u - 60; omega, by show 0 ≤ w - 2000; omega, R_byteAt r1 hD x1 hv.1 h5 (hr.symm ▸ fun g2 S2 r2 d2 t2 f2 x2 => ?_)⟩
  refine ⟨nl rfl, ⟨_, r2.1⟩, rfl, nl rfl, 0, 0, Nat.zero_le _, Nat.zero_le _, r_thrown r2 ?_⟩
  rw [t2]
  refine ⟨fun _ => ?_, fun c => (c rfl).elim⟩
  have ko : outA S2 := by
    obtain ⟨f, hf⟩ := oo
    exact ⟨f, by rw [f2 30 (by omega)]; exact hf⟩
  have fin : ∀ (j5 j6 : Option XV), x_go b_L_law st_P 1143 [some (xv_r 48 0), some (xv_r 0 0), some (xv_r 15 0), some (xv_r 30 0), some (xv_i (Int32.ofNat (4 * n))), j5, j6] [] S2 (u - 60 - 0 - 0) (w - 2000 - 0 - 0) := fun j5 j6 => nx _ S2 _ _ j5 j6 (hl.next hn kk (k1.of fun k hk => f2 k (by omega)) ⟨g2, r2, d2⟩ x2 ko (fun k hk => (f2 k (by omega)).trans (f1 k (by omega))) (by omega) (by omega))
  refine ⟨fun _ => x_go.back mn_L_law (x_go.run mn_L_law 1 (fin _ _)), fun c => ?_⟩
  have v1 := v1 (Classical.not_not.mp c)
  refine ⟨nl rfl, 1, fo1, by rw [f2 30 (by omega)]; exact o1, z_in (k := 0) (by decide) (by decide), ?_⟩
  rw [show fo1 (Int32.toNatClampNeg 0) = _ from v1]
  refine ⟨fun _ => x_go.back mn_L_law (x_go.run mn_L_law 1 (fin _ _)), fun c => (c (lg_self _)).elim⟩

set_option maxRecDepth 100000 in
set_option maxHeartbeats 4000000 in
theorem op_mix (hl : LG L xs n d S u w) (hn : n < 512) (hi : 4 * n + 4 ≤ L) (hL : L ≤ 2048) (nx : LNx L xs n) (j5 j6 : Option XV) : x_go b_L_law st_P 1007 [some (xv_r 48 0), some (xv_r 0 0), some (xv_r 15 0), some (xv_r 30 0), some (xv_i (Int32.ofNat (4 * n))), j5, j6] [] S u w := by
  obtain ⟨hK, ⟨g, hR, hD⟩, hX, ho, h48, hv, hu, hw⟩ := id hl
  have hro := ro_st h48
  have h5 : (d.2 5).length ≤ 3000 := hD.2.2.2.2.1
  have hn5 : n ≤ 512 := by omega
  have hs : S 48 0 = some (.inr (0, L, .inl xs)) := by
    rw [h48 48 (by decide)]
    rfl
  have kk := k_mix hv  (xs (4 * n + 1)) (xs (4 * n + 2)) (xs (4 * n + 3))
  have m1 := nK_mono kk.2
  have m2 := nS_mono kk.2
  generalize hr : s_mix d (xs (4 * n + 1)) (xs (4 * n + 2)) (xs (4 * n + 3)) = r at kk m1 m2
  refine x_go.run mn_L_law 80 ?_
  refine ⟨L, xs, hs, sc_in hn hi hL (c := 1) (by decide), L, xs, hs, sc_in hn hi hL (c := 2) (by decide), L, xs, hs, sc_in hn hi hL (c := 3) (by decide), ?_⟩
  rw [show xs (Int32.ofNat (4 * n) + 1).toNatClampNeg = _ from sc_at hn (c := 1) (by decide) xs, show xs (Int32.ofNat (4 * n) + 2).toNatClampNeg = _ from sc_at hn (c := 2) (by decide) xs, show xs (Int32.ofNat (4 * n) + 3).toNatClampNeg = _ from sc_at hn (c := 3) (by decide) xs]
  refine ⟨nl rfl, rfl, nl rfl, 3, 18, by show 3 ≤ u; omega, by show 18 ≤ w; omega, L_mix hK hv.1 ho (hr.symm ▸ fun S1 fo1 k1 f1 o1 v1 => ?_)⟩
  have hs1 : S1 48 0 = some (.inr (0, L, .inl xs)) := by
    rw [f1 48 (by omega)]
    exact hs
  have h481 : ∀ k, 48 ≤ k → S1 k = st_S L xs k := fun k hk => (f1 k (by omega)).trans (h48 k hk)
  have r1 : RM g S1 := hR.keep (f1 15 (by omega)) (f1 16 (by omega)) (f1 17 (by omega))
  have x1 : RX S1 := hX.eq (f1 19 (by omega))
  have oo : outA S1 := ⟨fo1, o1⟩
  refine ⟨L, xs, hs1, sc_in hn hi hL (c := 1) (by decide), L, xs, hs1, sc_in hn hi hL (c := 2) (by decide), L, xs, hs1, sc_in hn hi hL (c := 3) (by decide), ?_⟩
  rw [show xs (Int32.ofNat (4 * n) + 1).toNatClampNeg = _ from sc_at hn (c := 1) (by decide) xs, show xs (Int32.ofNat (4 * n) + 2).toNatClampNeg = _ from sc_at hn (c := 2) (by decide) xs, show xs (Int32.ofNat (4 * n) + 3).toNatClampNeg = _ from sc_at hn (c := 3) (by decide) xs]
  refine ⟨nl rfl, ⟨_, r1.1⟩, rfl, nl rfl, 0, 0, by show 0 ≤ u - 3; omega, by show 0 ≤ w - 18; omega, R_mix r1 hD x1 hv.1 (hr.symm ▸ fun g2 S2 r2 d2 t2 f2 x2 => ?_)⟩
  refine ⟨nl rfl, ⟨_, r2.1⟩, rfl, nl rfl, 0, 0, Nat.zero_le _, Nat.zero_le _, r_thrown r2 ?_⟩
  rw [t2]
  refine ⟨fun _ => ?_, fun c => (c rfl).elim⟩
  have ko : outA S2 := by
    obtain ⟨f, hf⟩ := oo
    exact ⟨f, by rw [f2 30 (by omega)]; exact hf⟩
  have fin : ∀ (j5 j6 : Option XV), x_go b_L_law st_P 1143 [some (xv_r 48 0), some (xv_r 0 0), some (xv_r 15 0), some (xv_r 30 0), some (xv_i (Int32.ofNat (4 * n))), j5, j6] [] S2 (u - 3 - 0 - 0) (w - 18 - 0 - 0) := fun j5 j6 => nx _ S2 _ _ j5 j6 (hl.next hn kk (k1.of fun k hk => f2 k (by omega)) ⟨g2, r2, d2⟩ x2 ko (fun k hk => (f2 k (by omega)).trans (f1 k (by omega))) (by omega) (by omega))
  refine ⟨fun _ => x_go.back mn_L_law (x_go.run mn_L_law 1 (fin _ _)), fun c => ?_⟩
  have v1 := v1 (Classical.not_not.mp c)
  refine ⟨nl rfl, 1, fo1, by rw [f2 30 (by omega)]; exact o1, z_in (k := 0) (by decide) (by decide), ?_⟩
  rw [show fo1 (Int32.toNatClampNeg 0) = _ from v1]
  refine ⟨fun _ => x_go.back mn_L_law (x_go.run mn_L_law 1 (fin _ _)), fun c => (c (lg_self _)).elim⟩

set_option maxRecDepth 100000 in
set_option maxHeartbeats 4000000 in
theorem op_count (hl : LG L xs n d S u w) (hn : n < 512) (hi : 4 * n + 4 ≤ L) (hL : L ≤ 2048) (nx : LNx L xs n) (j5 j6 : Option XV) : x_go b_L_law st_P 1087 [some (xv_r 48 0), some (xv_r 0 0), some (xv_r 15 0), some (xv_r 30 0), some (xv_i (Int32.ofNat (4 * n))), j5, j6] [] S u w := by
  obtain ⟨hK, ⟨g, hR, hD⟩, hX, ho, h48, hv, hu, hw⟩ := id hl
  have hro := ro_st h48
  have h5 : (d.2 5).length ≤ 3000 := hD.2.2.2.2.1
  have hn5 : n ≤ 512 := by omega
  have hs : S 48 0 = some (.inr (0, L, .inl xs)) := by
    rw [h48 48 (by decide)]
    rfl
  have kk := k_count hv  (xs (4 * n + 1))
  have m1 := nK_mono kk.2
  have m2 := nS_mono kk.2
  generalize hr : s_count d (xs (4 * n + 1)) = r at kk m1 m2
  refine x_go.run mn_L_law 80 ?_
  refine ⟨L, xs, hs, sc_in hn hi hL (c := 1) (by decide), ?_⟩
  rw [show xs (Int32.ofNat (4 * n) + 1).toNatClampNeg = _ from sc_at hn (c := 1) (by decide) xs]
  refine ⟨nl rfl, rfl, nl rfl, 3, 18, by show 3 ≤ u; omega, by show 18 ≤ w; omega, L_count hK hv (by omega) ho (hr.symm ▸ fun S1 fo1 k1 f1 o1 v1 => ?_)⟩
  have hs1 : S1 48 0 = some (.inr (0, L, .inl xs)) := by
    rw [f1 48 (by omega)]
    exact hs
  have h481 : ∀ k, 48 ≤ k → S1 k = st_S L xs k := fun k hk => (f1 k (by omega)).trans (h48 k hk)
  have r1 : RM g S1 := hR.keep (f1 15 (by omega)) (f1 16 (by omega)) (f1 17 (by omega))
  have x1 : RX S1 := hX.eq (f1 19 (by omega))
  have oo : outA S1 := ⟨fo1, o1⟩
  refine ⟨L, xs, hs1, sc_in hn hi hL (c := 1) (by decide), ?_⟩
  rw [show xs (Int32.ofNat (4 * n) + 1).toNatClampNeg = _ from sc_at hn (c := 1) (by decide) xs]
  refine ⟨nl rfl, ⟨_, r1.1⟩, rfl, nl rfl, 0, 0, by show 0 ≤ u - 3; omega, by show 0 ≤ w - 18; omega, R_count r1 hD x1  (hr.symm ▸ fun g2 S2 r2 d2 t2 f2 x2 => ?_)⟩
  refine ⟨nl rfl, ⟨_, r2.1⟩, rfl, nl rfl, 0, 0, Nat.zero_le _, Nat.zero_le _, r_thrown r2 ?_⟩
  rw [t2]
  refine ⟨fun _ => ?_, fun c => (c rfl).elim⟩
  have ko : outA S2 := by
    obtain ⟨f, hf⟩ := oo
    exact ⟨f, by rw [f2 30 (by omega)]; exact hf⟩
  have fin : ∀ (j5 j6 : Option XV), x_go b_L_law st_P 1143 [some (xv_r 48 0), some (xv_r 0 0), some (xv_r 15 0), some (xv_r 30 0), some (xv_i (Int32.ofNat (4 * n))), j5, j6] [] S2 (u - 3 - 0 - 0) (w - 18 - 0 - 0) := fun j5 j6 => nx _ S2 _ _ j5 j6 (hl.next hn kk (k1.of fun k hk => f2 k (by omega)) ⟨g2, r2, d2⟩ x2 ko (fun k hk => (f2 k (by omega)).trans (f1 k (by omega))) (by omega) (by omega))
  refine ⟨fun _ => x_go.back mn_L_law (x_go.run mn_L_law 1 (fin _ _)), fun c => ?_⟩
  have v1 := v1 (Classical.not_not.mp c)
  refine ⟨nl rfl, 1, fo1, by rw [f2 30 (by omega)]; exact o1, z_in (k := 0) (by decide) (by decide), ?_⟩
  rw [show fo1 (Int32.toNatClampNeg 0) = _ from v1]
  refine ⟨fun _ => x_go.back mn_L_law (x_go.run mn_L_law 1 (fin _ _)), fun c => (c (lg_self _)).elim⟩

end DJ
