theorem dset_ne {d : DS} {n j k : Nat} {v : Int32} (h : k ≠ n) : (dset d n j v).1 k = d.1 k := gs_ne h
theorem voids_le (l : List R6) (w : Int32) : (voidsOf l w).length ≤ l.length := List.length_filter_le _ _
noncomputable def dask (d : DS) (m v : Nat) : DS × Int32 × Int32 :=
  if d.1 10 m = 3 then (if dmix d m v ≠ none ∧ (d.2 m).length + 5 + (voidsOf (d.2 m) (Int32.ofNat m)).length ≤ 1200 then
    (if dfailsb d m = true then (drec d m (1, Int32.ofNat m, dlast d m + 1, d.1 11 m, Int32.ofNat v, 0), 4, 0)
     else (dsent (dset (drec d m (1, Int32.ofNat m, dlast d m + 1, d.1 11 m, Int32.ofNat v, 0)) 10 m 4) (200, Int32.ofNat m, dlast d m + 1, d.1 11 m, Int32.ofNat v, 0), 0, dlast d m + 1))
    else (d, 3, 0)) else (d, 2, 0)
theorem RM.put26 {d : DS} {g : Nat → Nat → Int32} {S S1 : XH} (hR : RM g S) (hD : MD d g) (hX : RX S) (hf : fm S1 S) (v : Int32) {Q : XH → Prop} (h : mC d v S1 Q) : Q (x_up S 15 0 (.inl (10, (mfl g).set 26 (xv_i v)))) := by
  obtain ⟨g1, a1, a2, a3, a4, a5, a6, a7⟩ := thr hR hD hX v
  exact h g1 _ a1 a2 a3 (hf.tr a5) a6
set_option maxHeartbeats 4000000 in
theorem r_ask {d : DS} {g : Nat → Nat → Int32} {S : XH} {P : XP} {m v : Int32} (hR : RM g S) (hD : MD d g) (hX : RX S) (hn : ∀ M, M < 4 → ntok (d.1 13) M)
    (hb : ¬ (0 ≤ m ∧ m ≤ 3 ∧ 5 ≤ v ∧ v ≤ 1000) → mC d 1 S (fun S' => P (.inl (some (xv_i 0))) S'))
    (ho : ∀ M V, M < 4 → 5 ≤ V → V ≤ 1000 → m = Int32.ofNat M → v = Int32.ofNat V → mC (dask d M V).1 (dask d M V).2.1 S (fun S' => P (.inl (some (xv_i (dask d M V).2.2))) S')) : Y_R_ask 1 6 [xv_r 15 0, xv_i m, xv_i v] S P := by
  have fin : ∀ (th : Int32) (g : Nat → Nat → Int32) (S1 : XH), RM g S1 → MD d g → RX S1 → fm S S1 → (0 < th → mC d th S (fun S' => P (.inl (some (xv_i 0))) S')) → (th ≤ 0 → th = 0 ∧ ∃ M V, M < 4 ∧ (d.2 M).length + 5 ≤ 1200 ∧ m = Int32.ofNat M ∧ v = Int32.ofNat V ∧
        (dfailsb d M = true → mC (drec d M (1, Int32.ofNat M, dlast d M + 1, d.1 11 M, Int32.ofNat V, 0)) 4 S (fun S' => P (.inl (some (xv_i 0))) S')) ∧
        (dfailsb d M = false → mC (dsent (dset (drec d M (1, Int32.ofNat M, dlast d M + 1, d.1 11 M, Int32.ofNat V, 0)) 10 M 4) (200, Int32.ofNat M, dlast d M + 1, d.1 11 M, Int32.ofNat V, 0)) 0 S (fun S' => P (.inl (some (xv_i (dlast d M + 1)))) S'))) →
      x_go b_R_ask P 73 [some (xv_r 15 0), some (xv_i m), some (xv_i v), none, none] [xv_i th, xv_r 15 0] S1 1 6 := by
    intro th g S1 hR hD hX hfm hv hz
    refine x_go.run mn_R_ask 60 ?_
    refine ⟨trivial, _, hR.1, nl rfl, nl rfl, ?_⟩
    obtain ⟨g1, a1, a2, a3, a4, a5, a6, a7⟩ := thr hR hD hX th
    show x_run b_R_ask P (x_go b_R_ask P) 59 76 [some (xv_r 15 0), some (xv_i m), some (xv_i v), none, none] [] (x_up S1 15 0 (.inl (10, (mfl g).set 26 (xv_i th)))) 1 6
    generalize x_up S1 15 0 (.inl (10, (mfl g).set 26 (xv_i th))) = S2 at a1 a5 a6 a7 ⊢
    refine ⟨nl rfl, _, _, a1.1, rfl, ?_⟩
    rw [a3]
    refine ⟨fun q => ?_, fun q => hv (Int32.not_le.mp q) g1 S2 a1 a2 a3 (hfm.tr a5) a6⟩
    obtain ⟨v0, M, V, hM, hlen, rfl, rfl, hF, hN⟩ := hz q
    have hc : (d.2 M).length < jcap M := by
      unfold jcap
      rw [if_neg (by omega)]
      omega
    obtain ⟨nx, hnx⟩ := a6
    refine ⟨nl rfl, ⟨_, a1.1⟩, rfl, nl rfl, 0, 0, Nat.zero_le _, Nat.zero_le _, (r_lastTrace a1 (by omega) (a2.2.2.1 M (by omega)) ?_)⟩
    refine ⟨nl rfl, _, _, a1.1, rfl, ?_⟩
    refine ⟨_, _, a1.2.1 11 rfl, z_in (by exact hM) (by decide), ?_⟩
    rw [z_nat (by omega), a2.1 11 rfl]
    refine ⟨nl rfl, ⟨_, a1.1⟩, rfl, nl rfl, 1, 6, nl rfl, nl rfl, r_rec (nx := nx) (e := (1, Int32.ofNat M, dlast d M + 1, d.1 11 M, Int32.ofNat V, 0)) a1 a2 (by omega) hc (mrel_a (Or.inl rfl)) (hnx nx (Nat.le_refl _)) ⟨fun hf g3 S3 b1 b2 b3 b4 b5 => ?_, fun hf g3 S3 b1 b2 b3 b4 b5 b6 => ?_⟩⟩
    · refine ⟨nl rfl, _, _, b1.1, rfl, ?_⟩
      refine ⟨_, _, b1.2.1 10 rfl, nl rfl, z_in (by exact hM) (by decide), ?_⟩
      rw [z_nat (by omega)]
      have r1 := b1.ast (n := 10) rfl (upd (g3 10) M 4)
      have d1 := b2.set (n := 10) rfl M 4
      refine ⟨nl rfl, _, _, r1.1, rfl, ?_⟩
      refine ⟨_, _, r1.2.1 11 rfl, z_in (by exact hM) (by decide), ?_⟩
      have e11 : gs g3 10 (upd (g3 10) M 4) 11 = d.1 11 := by
        rw [d1.1 11 rfl, dset_ne (by decide)]
        exact drec_1 (by decide)
      rw [z_nat (by omega), e11]
      refine ⟨nl rfl, ⟨_, r1.1⟩, rfl, nl rfl, 0, 0, nl rfl, nl rfl, r_sent (e := (200, Int32.ofNat M, dlast d M + 1, d.1 11 M, Int32.ofNat V, 0)) r1 d1 fun g4 S4 c1 c2 c3 c4 c5 => ?_⟩
      exact hN hf g4 S4 c1 c2 (by rw [c3 26 (by omega), gs_ne (by decide), b3 26 rfl, a3, v0]) (((hfm.tr a5).tr (b4.up (by decide) (by decide))).tr c4) (RX.eq ⟨nx, hnx⟩ (by rw [c5, x_up_k (by decide), b5]))
    · refine ⟨14, [], 112, b6, nl rfl, rfl, ?_⟩
      refine ⟨trivial, _, b1.1, nl rfl, nl rfl, ?_⟩
      exact b1.put26 b2 (RX.ne ⟨nx, hnx⟩ b5) ((hfm.tr a5).tr b4) 4 (hF hf)
  have bad : ¬ (0 ≤ m ∧ m ≤ 3 ∧ 5 ≤ v ∧ v ≤ 1000) → x_go b_R_ask P 73 [some (xv_r 15 0), some (xv_i m), some (xv_i v), none, none] [xv_i 1, xv_r 15 0] S 1 6 := fun h => fin 1 g S hR hD hX fm.rf (fun _ => hb h) (fun q => absurd q (by decide))
  refine x_go.run mn_R_ask 60 ?_
  refine ⟨nl rfl, rfl, nl rfl, 0, 0, Nat.zero_le _, Nat.zero_le _, r_in (fun h1 h2 => ?_) (fun h0 => ?_)⟩
  · refine ⟨fun q => absurd q (by decide), fun _ => ?_⟩
    refine ⟨nl rfl, rfl, nl rfl, 0, 0, Nat.zero_le _, Nat.zero_le _, r_in (fun h3 h4 => ?_) (fun h0 => ?_)⟩
    · refine ⟨fun _ => ?_, fun q => (q (by decide)).elim⟩
      obtain ⟨M, hM, rfl⟩ := in_nat 3 (by decide) h1 h2
      obtain ⟨V, hV, rfl⟩ := in_nat 1000 (by decide) (Int32.le_trans (by decide) h3) h4
      have hV5 : 5 ≤ V := (z_le (a := 5) (by decide) (by omega)).mp h3
      have hM4 : M < 4 := by omega
      have h := ho M V hM4 hV5 hV rfl rfl
      unfold dask at h
      refine ⟨nl rfl, _, _, hR.1, rfl, ?_⟩
      refine ⟨_, _, hR.2.1 10 rfl, z_in (by exact hM4) (by decide), ?_⟩
      rw [z_nat (by omega)]
      rw [hD.1 10 rfl]
      refine ⟨fun c => ?_, fun c => ?_⟩
      · rw [if_pos (show d.1 10 M = 3 from c)] at h
        refine ⟨nl rfl, ⟨_, hR.1⟩, rfl, nl rfl, 0, 0, Nat.zero_le _, Nat.zero_le _, (r_mixed hR hD hM4 hV (hn M hM4) (fun x hx g2 S2 b1 b2 b3 b4 b5 b6 => ?_) (fun hno g2 S2 b1 b2 b4 b5 b6 => ?_))⟩
        · refine ⟨fun q => absurd q (by decide), fun _ => ?_⟩
          have hJ := b2.2.2.1 M (by omega)
          have hl : (d.2 M).length ≤ 1200 := by
            have := hJ.2.1
            unfold jcap at this
            rw [if_neg (by omega)] at this
            exact this
          have hvl := voids_le (d.2 M) (Int32.ofNat M)
          refine ⟨nl rfl, _, _, b1.1, rfl, ?_⟩
          refine ⟨_, _, b1.2.1 6 rfl, z_in (by show M < 5; omega) (by decide), ?_⟩
          rw [z_nat (by omega), hJ.1]
          refine ⟨nl rfl, ⟨_, b1.1⟩, rfl, nl rfl, 0, 0, Nat.zero_le _, Nat.zero_le _, (r_voids b1 (by omega) hJ ?_)⟩
          have es : Int32.ofNat (d.2 M).length + 5 + Int32.ofNat (voidsOf (d.2 M) (Int32.ofNat M)).length = Int32.ofNat ((d.2 M).length + 5 + (voidsOf (d.2 M) (Int32.ofNat M)).length) := by
            rw [← z_add, ← z_add]
            rfl
          refine ⟨fun q => ?_, fun q => ?_⟩
          · have q : (d.2 M).length + 5 + (voidsOf (d.2 M) (Int32.ofNat M)).length ≤ 1200 := by
              change Int32.ofNat (d.2 M).length + 5 + Int32.ofNat (voidsOf (d.2 M) (Int32.ofNat M)).length ≤ 1200 at q
              rw [es] at q
              exact (z_le (b := 1200) (by omega) (by decide)).mp q
            rw [if_pos ⟨(by rw [dmix_some hx]; exact fun z => by cases z), q⟩] at h
            refine x_go.back mn_R_ask (x_go.run mn_R_ask 1 (fin 0 g2 S2 b1 b2 (hX.eq b6) b5 (fun q => absurd q (by decide)) (fun _ => ⟨rfl, M, V, hM4, by omega, rfl, rfl, fun hf => ?_, fun hf => ?_⟩)))
            · rw [if_pos hf] at h
              exact h
            · rw [if_neg (by rw [hf]; decide)] at h
              exact h
          · have q : ¬ (d.2 M).length + 5 + (voidsOf (d.2 M) (Int32.ofNat M)).length ≤ 1200 := by
              intro z
              refine q ?_
              show Int32.ofNat (d.2 M).length + 5 + Int32.ofNat (voidsOf (d.2 M) (Int32.ofNat M)).length ≤ 1200
              rw [es]
              exact (z_le (b := 1200) (by omega) (by decide)).mpr z
            rw [if_neg (fun z => q z.2)] at h
            exact x_go.back mn_R_ask (x_go.run mn_R_ask 2 (fin 3 g2 S2 b1 b2 (hX.eq b6) b5 (fun _ => h) (fun q => absurd q (by decide))))
        · rw [if_neg (fun z => z.1 (dmix_none hno))] at h
          exact ⟨fun _ => x_go.back mn_R_ask (x_go.run mn_R_ask 2 (fin 3 g2 S2 b1 b2 (hX.eq b6) b5 (fun _ => h) (fun q => absurd q (by decide)))), fun q => (q rfl).elim⟩
      · rw [if_neg (show ¬ d.1 10 M = 3 from c)] at h
        exact x_go.back mn_R_ask (x_go.run mn_R_ask 2 (fin 2 g S hR hD hX fm.rf (fun _ => h) (fun q => absurd q (by decide))))
    · exact ⟨fun q => (q rfl).elim, fun _ => x_go.back mn_R_ask (x_go.run mn_R_ask 2 (bad fun q => h0 ⟨q.2.2.1, q.2.2.2⟩))⟩
  · exact ⟨fun _ => x_go.back mn_R_ask (x_go.run mn_R_ask 2 (bad fun q => h0 ⟨q.1, q.2.1⟩)), fun q => (q rfl).elim⟩
noncomputable def dcancel (d : DS) (m : Nat) : DS × Int32 := if d.1 10 m = 0 ∨ d.1 10 m = 1 then (d, 2) else if d.1 10 m = 4 then ((dlate d m).1, if (dlate d m).2 = true then 3 else 0) else (dset d 10 m 1, 0)
theorem r_cancel {d : DS} {g : Nat → Nat → Int32} {S : XH} {P : XP} {m : Int32} (hR : RM g S) (hD : MD d g) (hX : RX S) (hwt : ∀ M, M < 4 → d.1 10 M = 4 → Waits d M) (hc : ∀ M, M < 4 → (d.2 M).length < jcap M)
    (hb : ¬ (0 ≤ m ∧ m ≤ 3) → mC d 1 S (fun S' => P (.inl none) S'))
    (ho : ∀ M, M < 4 → m = Int32.ofNat M → mC (dcancel d M).1 (dcancel d M).2 S (fun S' => P (.inl none) S')) : Y_R_cancel 1 6 [xv_r 15 0, xv_i m] S P := by
  have fin : ∀ (th : Int32), (0 < th → mC d th S (fun S' => P (.inl none) S')) → (th ≤ 0 → th = 0 ∧ ∃ M, M < 4 ∧ m = Int32.ofNat M ∧ ¬ (d.1 10 M = 0 ∨ d.1 10 M = 1)) →
      x_go b_R_cancel P 38 [some (xv_r 15 0), some (xv_i m), none] [xv_i th, xv_r 15 0] S 1 6 := by
    intro th hv hz
    refine x_go.run mn_R_cancel 40 ?_
    refine ⟨trivial, _, hR.1, nl rfl, nl rfl, ?_⟩
    obtain ⟨g1, a1, a2, a3, a4, a5, a6, a7⟩ := thr hR hD hX th
    show x_run b_R_cancel P (x_go b_R_cancel P) 39 41 [some (xv_r 15 0), some (xv_i m), none] [] (x_up S 15 0 (.inl (10, (mfl g).set 26 (xv_i th)))) 1 6
    generalize x_up S 15 0 (.inl (10, (mfl g).set 26 (xv_i th))) = S2 at a1 a5 a6 a7 ⊢
    refine ⟨nl rfl, _, _, a1.1, rfl, ?_⟩
    rw [a3]
    refine ⟨fun q => ?_, fun q => hv (Int32.not_le.mp q) g1 S2 a1 a2 a3 a5 a6⟩
    obtain ⟨v0, M, hM, rfl, hst⟩ := hz q
    have h := ho M hM rfl
    unfold dcancel at h
    rw [if_neg hst] at h
    refine ⟨nl rfl, _, _, a1.1, rfl, ?_⟩
    refine ⟨_, _, a1.2.1 10 rfl, z_in (by exact hM) (by decide), ?_⟩
    rw [z_nat (by omega), a2.1 10 rfl]
    refine ⟨fun q => ?_, fun q => ?_⟩
    · have q4 : d.1 10 M = 4 := q
      rw [if_pos q4] at h
      obtain ⟨e, v, acc, w1, -⟩ := hwt M hM q4
      obtain ⟨nx, hnx⟩ := a6
      refine ⟨nl rfl, ⟨_, a1.1⟩, rfl, nl rfl, 1, 6, nl rfl, nl rfl, r_late (nx := nx) a1 a2 hM (hc M hM) (hnx nx (Nat.le_refl _)) (by rw [w1]; exact fun z => by cases z) ⟨fun hf g3 S3 b1 b2 b3 b4 b5 => ?_, fun hf g3 S3 b1 b2 b3 b4 b5 b6 => ?_⟩⟩
      · rw [if_neg (by rw [hf]; decide)] at h
        exact h g3 S3 b1 b2 (by rw [b3 26 rfl, a3, v0]) (a5.tr b4) (RX.eq ⟨nx, hnx⟩ b5)
      · rw [if_pos hf] at h
        refine ⟨14, [], 75, b6, nl rfl, rfl, ?_⟩
        refine ⟨trivial, _, b1.1, nl rfl, nl rfl, ?_⟩
        exact b1.put26 b2 (RX.ne ⟨nx, hnx⟩ b5) (a5.tr b4) 3 h
    · rw [if_neg (show ¬ d.1 10 M = 4 from q)] at h
      refine ⟨nl rfl, _, _, a1.1, rfl, ?_⟩
      refine ⟨_, _, a1.2.1 10 rfl, nl rfl, z_in (by exact hM) (by decide), ?_⟩
      rw [z_nat (by omega)]
      exact h _ _ (a1.ast (n := 10) rfl _) (a2.set (n := 10) rfl M 1) (a3.trans v0) (a5.up (by decide) (by decide)) (a6.eq (x_up_k (by decide)))
  refine x_go.run mn_R_cancel 40 ?_
  refine ⟨nl rfl, rfl, nl rfl, 0, 0, Nat.zero_le _, Nat.zero_le _, r_in (fun h1 h2 => ?_) (fun h0 => ?_)⟩
  · refine ⟨fun _ => ?_, fun q => (q (by decide)).elim⟩
    obtain ⟨M, hM, rfl⟩ := in_nat 3 (by decide) h1 h2
    have hM4 : M < 4 := by omega
    have h := ho M hM4 rfl
    unfold dcancel at h
    have two : d.1 10 M = 0 ∨ d.1 10 M = 1 → x_go b_R_cancel P 33 [some (xv_r 15 0), some (xv_i (Int32.ofNat M)), none] [xv_r 15 0] S 1 6 := fun q => by
      rw [if_pos q] at h
      exact x_go.run mn_R_cancel 2 (fin 2 (fun _ => h) (fun q => absurd q (by decide)))
    refine ⟨nl rfl, _, _, hR.1, rfl, ?_⟩
    refine ⟨_, _, hR.2.1 10 rfl, z_in (by exact hM4) (by decide), ?_⟩
    rw [z_nat (by omega)]
    rw [hD.1 10 rfl]
    refine ⟨fun q => x_go.back mn_R_cancel (two (Or.inl q)), fun q0 => ?_⟩
    refine ⟨nl rfl, _, _, hR.1, rfl, ?_⟩
    refine ⟨_, _, hR.2.1 10 rfl, z_in (by exact hM4) (by decide), ?_⟩
    rw [z_nat (by omega)]
    rw [hD.1 10 rfl]
    refine ⟨fun q => ?_, fun q => x_go.back mn_R_cancel (two (Or.inr (Classical.not_not.mp q)))⟩
    exact x_go.back mn_R_cancel (x_go.run mn_R_cancel 1 (fin 0 (fun q => absurd q (by decide)) (fun _ => ⟨rfl, M, hM4, rfl, fun z => z.elim q0 q⟩)))
  · exact ⟨fun q => (q rfl).elim, fun _ => x_go.back mn_R_cancel (x_go.run mn_R_cancel 2 (fin 1 (fun _ => hb h0) (fun q => absurd q (by decide))))⟩
