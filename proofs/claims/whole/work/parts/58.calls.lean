def toB (e : R6) : Prop := e.1 = 200 ∨ e.1 = 420 ∨ e.1 = 500
noncomputable def dmach (d : DS) (M : Nat) (e : R6) : DS × Bool := if e.1 = 210 then dansw d M e.2.2.1 e.2.2.2.2.2 else if e.1 = 430 ∧ fR (d.2 M) 4 (Int32.ofNat M) e.2.2.1 ≠ none ∧ fR (d.2 M) 5 (Int32.ofNat M) e.2.2.1 = none then drecB d M (5, Int32.ofNat M, e.2.2.1, 0, 0, 0) else (d, false)
noncomputable def ddel (d : DS) (M : Nat) (e : R6) : DS × Bool :=
  if e.1 = 200 ∨ e.1 = 420 ∨ e.1 = 500 then (if d.1 9 0 = 0 then (d, false) else dbank d e) else (if d.1 10 M = 0 then (d, false) else dmach d M e)
noncomputable def ddeliver (d : DS) (M : Nat) (e : R6) : DS × Int32 × Int32 := ((ddel d M e).1, (if (ddel d M e).2 = true then 2 else 0), if (ddel d M e).2 = true then 0 else Int32.ofNat ((ddel d M e).1.2 5).length - Int32.ofNat (d.2 5).length)
set_option maxHeartbeats 4000000 in
theorem r_deliver {d : DS} {g : Nat → Nat → Int32} {S : XH} {P : XP} {k : Int32} (hR : RM g S) (hD : MD d g) (hX : RX S) (hn : ∀ M, M < 4 → ntok (d.1 13) M) (hj : ∀ M, M < 4 → ∃ j, j ≤ 41 ∧ d.1 17 M = Int32.ofNat j) (hW : S 53 1 = some (.inr (0, 4, .inl st_wth)))
    (hwt : ∀ M, M < 4 → d.1 10 M = 4 → Waits d M) (hc : ∀ M, M < 4 → (d.2 M).length + 3 ≤ jcap M) (hc4 : (d.2 4).length < 4000) (hms : ∀ e ∈ d.2 5, ∃ M, M < 4 ∧ e.2.1 = Int32.ofNat M)
    (hb : ¬ (0 ≤ k ∧ k < Int32.ofNat (d.2 5).length) → mC d 1 S (fun S' => P (.inl (some (xv_i 0))) S'))
    (ho : ∀ K M (hK : K < (d.2 5).length), M < 4 → (d.2 5)[K].2.1 = Int32.ofNat M → k = Int32.ofNat K → mC (ddeliver d M (d.2 5)[K]).1 (ddeliver d M (d.2 5)[K]).2.1 S (fun S' => P (.inl (some (xv_i (ddeliver d M (d.2 5)[K]).2.2))) S')) : Y_R_deliver 3 18 [xv_r 15 0, xv_i k] S P := by
  have hM2 := hD.2.2.2.2.1
  have fin : ∀ (th : Int32), (0 < th → mC d th S (fun S' => P (.inl (some (xv_i 0))) S')) → (th ≤ 0 → th = 0 ∧ ∃ K, K < (d.2 5).length ∧ k = Int32.ofNat K) →
      x_go b_R_deliver P 20 [some (xv_r 15 0), some (xv_i k), none, none, none, none] [xv_i th, xv_r 15 0] S 3 18 := by
    intro th hv hz
    refine x_go.run mn_R_deliver 40 ?_
    refine ⟨trivial, _, hR.1, nl rfl, nl rfl, ?_⟩
    obtain ⟨g1, a1, a2, a3, a4, a5, a6, a7⟩ := thr hR hD hX th
    show x_run b_R_deliver P (x_go b_R_deliver P) 39 23 [some (xv_r 15 0), some (xv_i k), none, none, none, none] [] (x_up S 15 0 (.inl (10, (mfl g).set 26 (xv_i th)))) 3 18
    generalize x_up S 15 0 (.inl (10, (mfl g).set 26 (xv_i th))) = S2 at a1 a5 a6 a7 ⊢
    refine ⟨nl rfl, _, _, a1.1, rfl, ?_⟩
    rw [a3]
    refine ⟨fun q => ?_, fun q => hv (Int32.not_le.mp q) g1 S2 a1 a2 a3 a5 a6⟩
    obtain ⟨v0, K, hK, rfl⟩ := hz q
    have a3 : g1 26 0 = 0 := a3.trans v0
    obtain ⟨M, hM, hMe⟩ := hms _ (List.getElem_mem hK)
    have h := ho K M hK hM hMe rfl
    obtain ⟨m1, m2, m3, m4, m5, m6⟩ := a2.2.2.2.2.2 K hK
    have k3 : K < 3000 := by omega
    have hW2 : S2 53 1 = some (.inr (0, 4, .inl st_wth)) := by
      rw [a5 53 (by decide)]
      exact hW
    obtain ⟨nx, hnx⟩ := a6
    generalize hee : (d.2 5)[K] = e at h m1 m2 m3 m4 m5 m6 hMe
    unfold ddeliver at h
    refine ⟨nl rfl, _, _, a1.1, rfl, ?_⟩
    refine ⟨nl rfl, _, _, a1.1, rfl, ?_⟩
    refine ⟨_, _, a1.2.1 24 rfl, z_in (by exact k3) (by decide), ?_⟩
    rw [z_nat (by omega), m2, hMe, a2.2.2.2.1]
    -- after the work is done
    have done : ∀ (v4 : Int32) (u w : Nat) (r : DS × Bool) (g3 : Nat → Nat → Int32) (S3 : XH), ddel d M e = r → r.2 = false → RM g3 S3 → MD r.1 g3 → g3 26 0 = 0 → fm S2 S3 → RX S3 →
        x_go b_R_deliver P 205 [some (xv_r 15 0), some (xv_i (Int32.ofNat K)), some (xv_i (Int32.ofNat (d.2 5).length)), some (xv_i (Int32.ofNat M)), some (xv_i v4), none] [] S3 u w := by
      intro v4 u w r g3 S3 hr hf b1 b2 b3 b4 b5
      rw [hr, if_neg (by rw [hf]; decide), if_neg (by rw [hf]; decide)] at h
      refine x_go.run mn_R_deliver 10 ?_
      refine ⟨nl rfl, _, _, b1.1, rfl, ?_⟩
      rw [b2.2.2.2.1]
      exact h g3 S3 b1 b2 b3 (a5.tr b4) b5
    have off : ∀ (v4 : Int32) (u w : Nat), ddel d M e = (d, false) → P (.inl (some (xv_i 0))) S2 := by
      intro v4 u w hr
      rw [hr, if_neg (show ¬ (d, false).2 = true from Bool.false_ne_true), if_neg (show ¬ (d, false).2 = true from Bool.false_ne_true), Int32.sub_self] at h
      exact h g1 S2 a1 a2 a3 a5 ⟨nx, hnx⟩
    have caught : ∀ (v4 : Int32) (u w : Nat) (r : DS × Bool) (g3 : Nat → Nat → Int32) (S3 : XH), ddel d M e = r → r.2 = true → RM g3 S3 → MD r.1 g3 → fm S2 S3 → RX S3 →
        x_go b_R_deliver P 208 [some (xv_r 15 0), some (xv_i (Int32.ofNat K)), some (xv_i (Int32.ofNat (d.2 5).length)), some (xv_i (Int32.ofNat M)), some (xv_i v4), none] [xv_r 19 nx] S3 u w := by
      intro v4 u w r g3 S3 hr hf b1 b2 b4 b5
      rw [hr, if_pos hf, if_pos hf] at h
      refine x_go.run mn_R_deliver 10 ?_
      refine ⟨trivial, _, b1.1, nl rfl, nl rfl, ?_⟩
      exact b1.put26 b2 b5 (a5.tr b4) 2 h
    have main : ∀ v4 : Int32, (v4 = 0 ↔ ¬ (e.1 = 200 ∨ e.1 = 420 ∨ e.1 = 500)) → x_go b_R_deliver P 87 [some (xv_r 15 0), some (xv_i (Int32.ofNat K)), some (xv_i (Int32.ofNat (d.2 5).length)), some (xv_i (Int32.ofNat M)), some (xv_i v4), none] [] S2 3 18 := by
      intro v4 hv4
      have work : (v4 = 0 → d.1 10 M ≠ 0) → (v4 ≠ 0 → d.1 9 0 ≠ 0) → x_go b_R_deliver P 113 [some (xv_r 15 0), some (xv_i (Int32.ofNat K)), some (xv_i (Int32.ofNat (d.2 5).length)), some (xv_i (Int32.ofNat M)), some (xv_i v4), none] [] S2 3 18 := by
        intro h10 h9
        unfold ddel at done caught
        refine x_go.run mn_R_deliver 60 ?_
        refine ⟨fun q => ?_, fun q => ?_⟩
        · have q : v4 = 0 := q
          rw [if_neg (hv4.mp q), if_neg (h10 q)] at done caught
          unfold dmach at done caught
          refine ⟨nl rfl, _, _, a1.1, rfl, ?_⟩
          refine ⟨_, _, a1.2.1 19 rfl, z_in (by exact k3) (by decide), ?_⟩
          rw [z_nat (by omega), m1]
          refine ⟨fun q1 => ?_, fun q1 => ?_⟩
          · rw [if_neg (show ¬ e.1 = 210 from q1)] at done caught
            refine ⟨nl rfl, _, _, a1.1, rfl, ?_⟩
            refine ⟨_, _, a1.2.1 19 rfl, z_in (by exact k3) (by decide), ?_⟩
            rw [z_nat (by omega), m1]
            refine ⟨fun q2 => ?_, fun q2 => ?_⟩
            · rw [if_neg (fun z => q2 z.1)] at done
              exact x_go.back mn_R_deliver (done v4 _ _ (d, false) g1 S2 rfl rfl a1 a2 a3 fm.rf ⟨nx, hnx⟩)
            have q2 : e.1 = 430 := Classical.not_not.mp q2
            have hJ := a2.2.2.1 M (by omega)
            refine ⟨nl rfl, _, _, a1.1, rfl, ?_⟩
            refine ⟨_, _, a1.2.1 22 rfl, z_in (by exact k3) (by decide), ?_⟩
            rw [z_nat (by omega), m3]
            refine ⟨nl rfl, ⟨_, a1.1⟩, rfl, nl rfl, 0, 0, Nat.zero_le _, Nat.zero_le _, (r_hasR a1 (by omega) hJ (fun f4 => ?_) (fun f4 => ?_))⟩
            · rw [if_neg (fun z => z.2.1 f4)] at done
              exact ⟨fun _ => x_go.back mn_R_deliver (done v4 _ _ (d, false) g1 S2 rfl rfl a1 a2 a3 fm.rf ⟨nx, hnx⟩), fun q => (q rfl).elim⟩
            refine ⟨fun q => absurd q (by decide), fun _ => ?_⟩
            refine ⟨nl rfl, _, _, a1.1, rfl, ?_⟩
            refine ⟨_, _, a1.2.1 22 rfl, z_in (by exact k3) (by decide), ?_⟩
            rw [z_nat (by omega), m3]
            refine ⟨nl rfl, ⟨_, a1.1⟩, rfl, nl rfl, 0, 0, Nat.zero_le _, Nat.zero_le _, (r_hasR a1 (by omega) hJ (fun f5 => ?_) (fun f5 => ?_))⟩
            rotate_left
            · rw [if_neg (fun z => f5 z.2.2)] at done
              exact ⟨fun _ => x_go.back mn_R_deliver (done v4 _ _ (d, false) g1 S2 rfl rfl a1 a2 a3 fm.rf ⟨nx, hnx⟩), fun q => (q (by decide)).elim⟩
            refine ⟨fun q => (q rfl).elim, fun _ => ?_⟩
            rw [if_pos ⟨q2, f4, f5⟩] at done caught
            refine ⟨nl rfl, _, _, a1.1, rfl, ?_⟩
            refine ⟨_, _, a1.2.1 22 rfl, z_in (by exact k3) (by decide), ?_⟩
            rw [z_nat (by omega), m3]
            refine ⟨nl rfl, ⟨_, a1.1⟩, rfl, nl rfl, 1, 6, nl rfl, nl rfl, r_rec (nx := nx) (e := (5, Int32.ofNat M, e.2.2.1, 0, 0, 0)) a1 a2 (by omega) (by have := hc M hM; omega) (mrel_x (Or.inr rfl)) (hnx nx (Nat.le_refl _)) ⟨fun hf g3 S3 b1 b2 b3 b4 b5 => ?_, fun hf g3 S3 b1 b2 b3 b4 b5 b6 => ?_⟩⟩
            · exact x_go.back mn_R_deliver (done v4 _ _ _ g3 S3 rfl hf b1 b2 (by rw [b3 26 rfl]; exact a3) b4 (RX.eq ⟨nx, hnx⟩ b5))
            · exact ⟨14, [], 208, b6, nl rfl, rfl, x_go.back mn_R_deliver (caught v4 _ _ _ g3 S3 rfl hf b1 b2 b4 (RX.ne ⟨nx, hnx⟩ b5))⟩
          · rw [if_pos (show e.1 = 210 from Classical.not_not.mp q1)] at done caught
            obtain ⟨j, hj1, hj2⟩ := hj M hM
            have ht : (d.2 5)[K].2.2.1 = e.2.2.1 := by rw [hee]
            have ha : (d.2 5)[K].2.2.2.2.2 = e.2.2.2.2.2 := by rw [hee]
            refine ⟨nl rfl, ⟨_, a1.1⟩, rfl, nl rfl, 3, 18, nl rfl, nl rfl, r_answered (nx := nx) a1 a2 hM hK ht ha (hn M hM) hj1 hj2 hW2 (hwt M hM) (hc M hM) (hnx nx (Nat.le_refl _)) ⟨fun hf g3 S3 b1 b2 b3 b4 b5 => ?_, fun hf g3 S3 b1 b2 b3 b4 b5 b6 => ?_⟩⟩
            · exact x_go.back mn_R_deliver (x_go.run mn_R_deliver 1 (done v4 _ _ _ g3 S3 rfl hf b1 b2 (by rw [b3 26 rfl]; exact a3) b4 (RX.eq ⟨nx, hnx⟩ b5)))
            · exact ⟨14, [], 208, b6, nl rfl, rfl, x_go.back mn_R_deliver (caught v4 _ _ _ g3 S3 rfl hf b1 b2 b4 (RX.ne ⟨nx, hnx⟩ b5))⟩
        · have q : ¬ v4 = 0 := q
          rw [if_pos (Classical.not_not.mp fun z => q (hv4.mpr z)), if_neg (h9 q)] at done caught
          refine ⟨nl rfl, ⟨_, a1.1⟩, rfl, nl rfl, 1, 6, nl rfl, nl rfl, r_bank (nx := nx) a1 a2 hK hc4 (hnx nx (Nat.le_refl _)) ?_⟩
          rw [hee]
          refine ⟨fun hf g3 S3 b1 b2 b3 b4 b5 => ?_, fun hf g3 S3 b1 b2 b3 b4 b5 b6 => ?_⟩
          · exact x_go.back mn_R_deliver (x_go.run mn_R_deliver 1 (done v4 _ _ _ g3 S3 rfl hf b1 b2 (by rw [b3 26 rfl]; exact a3) b4 (RX.eq ⟨nx, hnx⟩ b5)))
          · exact ⟨14, [], 208, b6, nl rfl, rfl, x_go.back mn_R_deliver (caught v4 _ _ _ g3 S3 rfl hf b1 b2 b4 (RX.ne ⟨nx, hnx⟩ b5))⟩
      unfold ddel at off
      refine x_go.run mn_R_deliver 40 ?_
      refine ⟨fun q => ?_, fun q => ?_⟩
      · have q : v4 = 0 := q
        rw [if_neg (hv4.mp q)] at off
        refine ⟨nl rfl, _, _, a1.1, rfl, ?_⟩
        refine ⟨_, _, a1.2.1 10 rfl, z_in (by exact hM) (by decide), ?_⟩
        rw [z_nat (by omega), a2.1 10 rfl]
        refine ⟨fun z => x_go.back mn_R_deliver (work (fun _ => z) (fun y => (y q).elim)), fun z => ?_⟩
        exact off v4 0 0 (if_pos (Classical.not_not.mp z))
      · have q : ¬ v4 = 0 := q
        rw [if_pos (Classical.not_not.mp fun z => q (hv4.mpr z))] at off
        refine ⟨nl rfl, _, _, a1.1, rfl, ?_⟩
        rw [a2.2.1]
        refine ⟨fun z => x_go.back mn_R_deliver (work (fun y => (q y).elim) (fun _ => z)), fun z => ?_⟩
        exact off v4 0 0 (if_pos (Classical.not_not.mp z))
    refine ⟨nl rfl, _, _, a1.1, rfl, ?_⟩
    refine ⟨_, _, a1.2.1 19 rfl, z_in (by exact k3) (by decide), ?_⟩
    rw [z_nat (by omega), m1]
    refine ⟨fun q => ?_, fun q => ?_⟩
    · exact x_go.back mn_R_deliver (x_go.run mn_R_deliver 3 (main 1 ⟨fun z => absurd z (by decide), fun z => (z (Or.inl q)).elim⟩))
    refine ⟨nl rfl, _, _, a1.1, rfl, ?_⟩
    refine ⟨_, _, a1.2.1 19 rfl, z_in (by exact k3) (by decide), ?_⟩
    rw [z_nat (by omega), m1]
    refine ⟨fun q' => ?_, fun q' => ?_⟩
    · exact x_go.back mn_R_deliver (x_go.run mn_R_deliver 3 (main 1 ⟨fun z => absurd z (by decide), fun z => (z (Or.inr (Or.inl q'))).elim⟩))
    refine ⟨nl rfl, _, _, a1.1, rfl, ?_⟩
    refine ⟨_, _, a1.2.1 19 rfl, z_in (by exact k3) (by decide), ?_⟩
    rw [z_nat (by omega), m1]
    refine ⟨fun q'' => ?_, fun q'' => ?_⟩
    · exact x_go.back mn_R_deliver (x_go.run mn_R_deliver 2 (main 0 ⟨fun _ z => z.elim q fun z => z.elim q' q'', fun _ => rfl⟩))
    · exact x_go.back mn_R_deliver (x_go.run mn_R_deliver 3 (main 1 ⟨fun z => absurd z (by decide), fun z => (z (Or.inr (Or.inr (Classical.not_not.mp q'')))).elim⟩))
  refine x_go.run mn_R_deliver 40 ?_
  refine ⟨nl rfl, _, _, hR.1, rfl, ?_⟩
  rw [hD.2.2.2.1]
  have e1 : (Int32.ofNat (d.2 5).length - 1).toInt = ((d.2 5).length : Int) - 1 := z_isub (b := 1) (z_toInt (by omega)) rfl (by omega) (by omega)
  have e2 : ∀ x : Int32, x ≤ Int32.ofNat (d.2 5).length - 1 ↔ x < Int32.ofNat (d.2 5).length := fun x => by
    rw [Int32.le_iff_toInt_le, Int32.lt_iff_toInt_lt, e1, z_toInt (by omega)]
    omega
  refine ⟨nl rfl, rfl, nl rfl, 0, 0, Nat.zero_le _, Nat.zero_le _, r_in (fun h1 h2 => ?_) (fun h0 => ?_)⟩
  · refine ⟨fun q => absurd q (by decide), fun _ => ?_⟩
    obtain ⟨K, hK, rfl⟩ := z_of h1
    have h3 := (z_lt hK (by omega)).mp ((e2 _).mp h2)
    exact x_go.back mn_R_deliver (x_go.run mn_R_deliver 2 (fin 0 (fun q => absurd q (by decide)) (fun _ => ⟨rfl, K, h3, rfl⟩)))
  · exact ⟨fun _ => x_go.back mn_R_deliver (x_go.run mn_R_deliver 1 (fin 1 (fun _ => hb fun z => h0 ⟨z.1, (e2 _).mpr z.2⟩) (fun q => absurd q (by decide)))), fun q => (q rfl).elim⟩
