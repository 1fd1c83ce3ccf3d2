/-- the reversals vs are said again -/
def dagS (m : Nat) (d : DS) (vs : List R6) : DS := vs.foldl (fun d e => dsent d (420, Int32.ofNat m, e.2.2.1, 0, e.2.2.2.2.1, 0)) d
theorem dagS_ne {m k : Nat} (hk : k ≠ 5) : ∀ (vs : List R6) (d : DS), (dagS m d vs).2 k = d.2 k
  | [], _ => rfl
  | e :: vs, d => by
    show (dagS m (dsent d _) vs).2 k = _
    rw [dagS_ne hk vs, dsent_ne hk]
theorem dagS_1 {m : Nat} : ∀ (vs : List R6) (d : DS), (dagS m d vs).1 = d.1
  | [], _ => rfl
  | e :: vs, d => by
    show (dagS m (dsent d _) vs).1 = _
    rw [dagS_1 vs, dsent_1]
noncomputable def dagain (d : DS) (m : Nat) : DS × Int32 × Int32 := if d.1 10 m = 0 then (d, 2, 0) else (dagS m d (voidsOf (d.2 m) (Int32.ofNat m)), 0, Int32.ofNat (voidsOf (d.2 m) (Int32.ofNat m)).length)
theorem filt_suc {α : Type} {p : α → Bool} {l : List α} {i : Nat} (hi : i < l.length) : (l.take (i + 1)).filter p = (l.take i).filter p ++ (if p l[i] = true then [l[i]] else []) := by
  rw [List.take_succ_eq_append_getElem hi, List.filter_append]
  congr 1
  by_cases h : p l[i] = true
  · rw [if_pos h, List.filter_cons_of_pos h]
    rfl
  · rw [if_neg h, List.filter_cons_of_neg h]
    rfl
set_option maxHeartbeats 4000000 in
theorem r_again {d : DS} {g : Nat → Nat → Int32} {S : XH} {P : XP} {m : Int32} (hR : RM g S) (hD : MD d g) (hX : RX S)
    (hb : ¬ (0 ≤ m ∧ m ≤ 3) → mC d 1 S (fun S' => P (.inl (some (xv_i 0))) S'))
    (ho : ∀ M, M < 4 → m = Int32.ofNat M → mC (dagain d M).1 (dagain d M).2.1 S (fun S' => P (.inl (some (xv_i (dagain d M).2.2))) S')) : Y_R_again 0 0 [xv_r 15 0, xv_i m] S P := by
  have fin : ∀ (th : Int32), (0 < th → mC d th S (fun S' => P (.inl (some (xv_i 0))) S')) → (th ≤ 0 → th = 0 ∧ ∃ M, M < 4 ∧ m = Int32.ofNat M ∧ ¬ d.1 10 M = 0) →
      x_go b_R_again P 28 [some (xv_r 15 0), some (xv_i m), none, none] [xv_i th, xv_r 15 0] S 0 0 := by
    intro th hv hz
    refine x_go.run mn_R_again 40 ?_
    refine ⟨trivial, _, hR.1, nl rfl, nl rfl, ?_⟩
    obtain ⟨g1, a1, a2, a3, a4, a5, a6, a7⟩ := thr hR hD hX th
    show x_run b_R_again P (x_go b_R_again P) 39 31 [some (xv_r 15 0), some (xv_i m), none, none] [] (x_up S 15 0 (.inl (10, (mfl g).set 26 (xv_i th)))) 0 0
    generalize x_up S 15 0 (.inl (10, (mfl g).set 26 (xv_i th))) = S2 at a1 a5 a6 a7 ⊢
    refine ⟨nl rfl, _, _, a1.1, rfl, ?_⟩
    rw [a3]
    refine ⟨fun q => ?_, fun q => hv (Int32.not_le.mp q) g1 S2 a1 a2 a3 a5 a6⟩
    obtain ⟨v0, M, hM, rfl, hst⟩ := hz q
    have h := ho M hM rfl
    unfold dagain at h
    rw [if_neg hst] at h
    have hw5 : M < 5 := by omega
    have hcap := jcap_le hw5 (a2.2.2.1 M hw5).2.1
    generalize hl : d.2 M = l at h hcap
    have loop : ∀ n i, l.length - i = n → i ≤ l.length → ∀ (g3 : Nat → Nat → Int32) (S3 : XH), RM g3 S3 → MD (dagS M d ((l.take i).filter (isVb l (Int32.ofNat M)))) g3 → g3 26 = g1 26 → fm S2 S3 → S3 19 = S2 19 →
        x_go b_R_again P 47 [some (xv_r 15 0), some (xv_i (Int32.ofNat M)), some (xv_i (Int32.ofNat ((l.take i).filter (isVb l (Int32.ofNat M))).length)), some (xv_i (Int32.ofNat (1200 * M + i)))] [] S3 0 0 := by
      intro n
      induction n with
      | zero =>
        intro i hn hi g3 S3 b1 b2 b3 b4 b5
        have e : i = l.length := by omega
        have j1 := (b2.2.2.1 M hw5).1
        rw [dagS_ne (by omega), hl] at j1
        refine x_go.run mn_R_again 40 ?_
        refine ⟨nl rfl, rfl, nl rfl, 0, 0, Nat.zero_le _, Nat.zero_le _, r_at ?_⟩
        refine ⟨nl rfl, _, _, b1.1, rfl, ?_⟩
        refine ⟨_, _, b1.2.1 6 rfl, z_in (by exact hw5) (by decide), ?_⟩
        rw [z_nat (by omega), j1]
        refine ⟨fun c => ?_, fun c => (c ((jm_head hcap hi).mpr e)).elim⟩
        rw [e, List.take_length] at b2 ⊢
        exact h g3 S3 b1 b2 (by rw [b3, a3, v0]) (a5.tr b4) (a6.eq b5)
      | succ n ih =>
        intro i hn hi g3 S3 b1 b2 b3 b4 b5
        have hi' : i < l.length := by omega
        have hJ := b2.2.2.1 M hw5
        rw [dagS_ne (by omega), hl] at hJ
        have hnx := ih (i + 1) (by omega) (by omega)
        rw [filt_suc hi', ← Nat.add_assoc, ← z_suc (1200 * M + i)] at hnx
        refine x_go.run mn_R_again 60 ?_
        refine ⟨nl rfl, rfl, nl rfl, 0, 0, Nat.zero_le _, Nat.zero_le _, r_at ?_⟩
        refine ⟨nl rfl, _, _, b1.1, rfl, ?_⟩
        refine ⟨_, _, b1.2.1 6 rfl, z_in (by exact hw5) (by decide), ?_⟩
        rw [z_nat (by omega), hJ.1]
        refine ⟨fun c => absurd ((jm_head hcap hi).mp c) (by omega), fun _ => ?_⟩
        refine ⟨nl rfl, ⟨_, b1.1⟩, rfl, nl rfl, 0, 0, Nat.zero_le _, Nat.zero_le _, (r_isVoid b1 hw5 hJ hi' ?_ ?_)⟩
        · intro hv
          rw [hv, if_neg (by decide), List.append_nil] at hnx
          exact ⟨fun c => (c rfl).elim, fun _ => x_go.back mn_R_again (x_go.run mn_R_again 3 (hnx g3 S3 b1 b2 b3 b4 b5))⟩
        · intro hv
          have h4 := (isVb_iff.mp hv).1
          obtain ⟨q1, q2, q3, q4⟩ := hJ.2.2 i hi'
          rw [hv, if_pos rfl, List.length_append] at hnx
          refine ⟨fun _ => ?_, fun c => absurd c (by decide)⟩
          refine ⟨nl rfl, _, _, b1.1, rfl, ?_⟩
          refine ⟨_, _, b1.2.1 3 rfl, z_in (by show _ < 8800; omega) (by decide), ?_⟩
          rw [z_nat (by omega), q4.2.2 (Or.inr (Or.inl h4))]
          refine ⟨nl rfl, _, _, b1.1, rfl, ?_⟩
          refine ⟨_, _, b1.2.1 2 rfl, z_in (by show _ < 8800; omega) (by decide), ?_⟩
          rw [z_nat (by omega), q3]
          refine ⟨nl rfl, ⟨_, b1.1⟩, rfl, nl rfl, 0, 0, nl rfl, nl rfl, r_sent (e := (420, Int32.ofNat M, l[i].2.2.1, 0, l[i].2.2.2.2.1, 0)) b1 b2 fun g4 S4 c1 c2 c3 c4 c5 => ?_⟩
          have := hnx g4 S4 c1 (by
            unfold dagS at c2 ⊢
            rw [List.foldl_append]
            exact c2) (by rw [c3 26 (by omega), b3]) (b4.tr c4) (c5.trans b5)
          rw [← z_add] at this
          exact x_go.back mn_R_again (x_go.run mn_R_again 3 this)
    refine x_go.back mn_R_again (x_go.run mn_R_again 5 ?_)
    refine ⟨nl rfl, rfl, nl rfl, 0, 0, Nat.zero_le _, Nat.zero_le _, r_at ?_⟩
    exact loop _ 0 rfl (Nat.zero_le _) g1 S2 a1 a2 rfl fm.rf rfl
  refine x_go.run mn_R_again 40 ?_
  refine ⟨nl rfl, rfl, nl rfl, 0, 0, Nat.zero_le _, Nat.zero_le _, r_in (fun h1 h2 => ?_) (fun h0 => ?_)⟩
  · refine ⟨fun _ => ?_, fun q => (q (by decide)).elim⟩
    obtain ⟨M, hM, rfl⟩ := in_nat 3 (by decide) h1 h2
    have hM4 : M < 4 := by omega
    have h := ho M hM4 rfl
    unfold dagain at h
    refine ⟨nl rfl, _, _, hR.1, rfl, ?_⟩
    refine ⟨_, _, hR.2.1 10 rfl, z_in (by exact hM4) (by decide), ?_⟩
    rw [z_nat (by omega)]
    rw [hD.1 10 rfl]
    refine ⟨fun q => ?_, fun q => ?_⟩
    · exact x_go.back mn_R_again (x_go.run mn_R_again 1 (fin 0 (fun q => absurd q (by decide)) (fun _ => ⟨rfl, M, hM4, rfl, q⟩)))
    · rw [if_pos (show d.1 10 M = 0 from Classical.not_not.mp q)] at h
      exact x_go.back mn_R_again (x_go.run mn_R_again 2 (fin 2 (fun _ => h) (fun q => absurd q (by decide))))
  · exact ⟨fun q => (q rfl).elim, fun _ => x_go.back mn_R_again (x_go.run mn_R_again 2 (fin 1 (fun _ => hb h0) (fun q => absurd q (by decide))))⟩
def s3step (s : Int32) (e : R6) : Int32 := if e.1 = 3 then s + e.2.2.2.2.1 else s
/-- what came out, as the machine's journal has it -/
def sum3 (l : List R6) : Int32 := l.foldl s3step 0
noncomputable def dsettle (d : DS) (m : Nat) : DS × Int32 × Int32 := if d.1 10 m = 0 ∨ d.1 10 m = 4 ∨ (voidsOf (d.2 m) (Int32.ofNat m)).length ≠ 0 then (d, 2, 0) else (dsent d (500, Int32.ofNat m, dlast d m, 0, sum3 (d.2 m), 0), 0, sum3 (d.2 m))
set_option maxHeartbeats 4000000 in
theorem r_settle {d : DS} {g : Nat → Nat → Int32} {S : XH} {P : XP} {m : Int32} (hR : RM g S) (hD : MD d g) (hX : RX S)
    (hb : ¬ (0 ≤ m ∧ m ≤ 3) → mC d 1 S (fun S' => P (.inl (some (xv_i 0))) S'))
    (ho : ∀ M, M < 4 → m = Int32.ofNat M → mC (dsettle d M).1 (dsettle d M).2.1 S (fun S' => P (.inl (some (xv_i (dsettle d M).2.2))) S')) : Y_R_settle 0 0 [xv_r 15 0, xv_i m] S P := by
  have fin : ∀ (th : Int32), (0 < th → mC d th S (fun S' => P (.inl (some (xv_i 0))) S')) → (th ≤ 0 → th = 0 ∧ ∃ M, M < 4 ∧ m = Int32.ofNat M ∧ ¬ (d.1 10 M = 0 ∨ d.1 10 M = 4 ∨ (voidsOf (d.2 M) (Int32.ofNat M)).length ≠ 0)) →
      x_go b_R_settle P 46 [some (xv_r 15 0), some (xv_i m), none, none] [xv_i th, xv_r 15 0] S 0 0 := by
    intro th hv hz
    refine x_go.run mn_R_settle 40 ?_
    refine ⟨trivial, _, hR.1, nl rfl, nl rfl, ?_⟩
    obtain ⟨g1, a1, a2, a3, a4, a5, a6, a7⟩ := thr hR hD hX th
    show x_run b_R_settle P (x_go b_R_settle P) 39 49 [some (xv_r 15 0), some (xv_i m), none, none] [] (x_up S 15 0 (.inl (10, (mfl g).set 26 (xv_i th)))) 0 0
    generalize x_up S 15 0 (.inl (10, (mfl g).set 26 (xv_i th))) = S2 at a1 a5 a6 a7 ⊢
    refine ⟨nl rfl, _, _, a1.1, rfl, ?_⟩
    rw [a3]
    refine ⟨fun q => ?_, fun q => hv (Int32.not_le.mp q) g1 S2 a1 a2 a3 a5 a6⟩
    obtain ⟨v0, M, hM, rfl, hst⟩ := hz q
    have h := ho M hM rfl
    unfold dsettle at h
    rw [if_neg hst] at h
    have hw5 : M < 5 := by omega
    have hJ := a2.2.2.1 M hw5
    have hcap := jcap_le hw5 hJ.2.1
    have loop : ∀ n i, (d.2 M).length - i = n → i ≤ (d.2 M).length →
        x_go b_R_settle P 65 [some (xv_r 15 0), some (xv_i (Int32.ofNat M)), some (xv_i (((d.2 M).take i).foldl s3step 0)), some (xv_i (Int32.ofNat (1200 * M + i)))] [] S2 0 0 := by
      intro n
      induction n with
      | zero =>
        intro i hn hi
        have e : i = (d.2 M).length := by omega
        refine x_go.run mn_R_settle 40 ?_
        refine ⟨nl rfl, rfl, nl rfl, 0, 0, Nat.zero_le _, Nat.zero_le _, r_at ?_⟩
        refine ⟨nl rfl, _, _, a1.1, rfl, ?_⟩
        refine ⟨_, _, a1.2.1 6 rfl, z_in (by exact hw5) (by decide), ?_⟩
        rw [z_nat (by omega), hJ.1]
        refine ⟨fun c => ?_, fun c => (c ((jm_head hcap hi).mpr e)).elim⟩
        rw [e, List.take_length]
        refine ⟨nl rfl, ⟨_, a1.1⟩, rfl, nl rfl, 0, 0, Nat.zero_le _, Nat.zero_le _, (r_lastTrace a1 hw5 hJ ?_)⟩
        refine ⟨nl rfl, ⟨_, a1.1⟩, rfl, nl rfl, 0, 0, nl rfl, nl rfl, r_sent (e := (500, Int32.ofNat M, dlast d M, 0, sum3 (d.2 M), 0)) a1 a2 fun g4 S4 c1 c2 c3 c4 c5 => ?_⟩
        exact h g4 S4 c1 c2 (by rw [c3 26 (by omega), a3, v0]) (a5.tr c4) (a6.eq c5)
      | succ n ih =>
        intro i hn hi
        have hi' : i < (d.2 M).length := by omega
        obtain ⟨q1, q2, q3, q4⟩ := hJ.2.2 i hi'
        have hnx := ih (i + 1) (by omega) (by omega)
        rw [fold_suc hi', ← Nat.add_assoc, ← z_suc (1200 * M + i)] at hnx
        generalize ((d.2 M).take i).foldl s3step 0 = v at hnx ⊢
        unfold s3step at hnx
        refine x_go.run mn_R_settle 60 ?_
        refine ⟨nl rfl, rfl, nl rfl, 0, 0, Nat.zero_le _, Nat.zero_le _, r_at ?_⟩
        refine ⟨nl rfl, _, _, a1.1, rfl, ?_⟩
        refine ⟨_, _, a1.2.1 6 rfl, z_in (by exact hw5) (by decide), ?_⟩
        rw [z_nat (by omega), hJ.1]
        refine ⟨fun c => absurd ((jm_head hcap hi).mp c) (by omega), fun _ => ?_⟩
        refine ⟨nl rfl, _, _, a1.1, rfl, ?_⟩
        refine ⟨_, _, a1.2.1 0 rfl, z_in (by show _ < 8800; omega) (by decide), ?_⟩
        rw [z_nat (by omega), q1]
        refine ⟨fun c => ?_, fun c => ?_⟩
        · rw [if_neg c] at hnx
          exact x_go.back mn_R_settle (x_go.run mn_R_settle 2 hnx)
        · have c3 := Classical.not_not.mp c
          rw [if_pos c3] at hnx
          refine ⟨nl rfl, _, _, a1.1, rfl, ?_⟩
          refine ⟨_, _, a1.2.1 3 rfl, z_in (by show _ < 8800; omega) (by decide), ?_⟩
          rw [z_nat (by omega), q4.2.2 (Or.inl c3)]
          exact x_go.back mn_R_settle (x_go.run mn_R_settle 4 hnx)
    refine x_go.back mn_R_settle (x_go.run mn_R_settle 5 ?_)
    refine ⟨nl rfl, rfl, nl rfl, 0, 0, Nat.zero_le _, Nat.zero_le _, r_at ?_⟩
    exact loop _ 0 rfl (Nat.zero_le _)
  refine x_go.run mn_R_settle 40 ?_
  refine ⟨nl rfl, rfl, nl rfl, 0, 0, Nat.zero_le _, Nat.zero_le _, r_in (fun h1 h2 => ?_) (fun h0 => ?_)⟩
  · refine ⟨fun _ => ?_, fun q => (q (by decide)).elim⟩
    obtain ⟨M, hM, rfl⟩ := in_nat 3 (by decide) h1 h2
    have hM4 : M < 4 := by omega
    have h := ho M hM4 rfl
    unfold dsettle at h
    have two : (d.1 10 M = 0 ∨ d.1 10 M = 4 ∨ (voidsOf (d.2 M) (Int32.ofNat M)).length ≠ 0) → x_go b_R_settle P 41 [some (xv_r 15 0), some (xv_i (Int32.ofNat M)), none, none] [xv_r 15 0] S 0 0 := fun q => by
      rw [if_pos q] at h
      exact x_go.run mn_R_settle 2 (fin 2 (fun _ => h) (fun q => absurd q (by decide)))
    have hJ := hD.2.2.1 M (by omega)
    have hcap := jcap_le (show M < 5 by omega) hJ.2.1
    have hvl := voids_le (d.2 M) (Int32.ofNat M)
    refine ⟨nl rfl, _, _, hR.1, rfl, ?_⟩
    refine ⟨_, _, hR.2.1 10 rfl, z_in (by exact hM4) (by decide), ?_⟩
    rw [z_nat (by omega)]
    rw [hD.1 10 rfl]
    refine ⟨fun q => x_go.back mn_R_settle (two (Or.inl q)), fun q0 => ?_⟩
    refine ⟨nl rfl, _, _, hR.1, rfl, ?_⟩
    refine ⟨_, _, hR.2.1 10 rfl, z_in (by exact hM4) (by decide), ?_⟩
    rw [z_nat (by omega)]
    rw [hD.1 10 rfl]
    refine ⟨fun q => x_go.back mn_R_settle (two (Or.inr (Or.inl q))), fun q4 => ?_⟩
    refine ⟨nl rfl, ⟨_, hR.1⟩, rfl, nl rfl, 0, 0, Nat.zero_le _, Nat.zero_le _, (r_voids hR (by omega) hJ ?_)⟩
    refine ⟨fun q => ?_, fun q => ?_⟩
    · have q : (voidsOf (d.2 M) (Int32.ofNat M)).length ≤ 0 := (z_le (b := 0) (by omega) (by decide)).mp q
      exact x_go.back mn_R_settle (x_go.run mn_R_settle 1 (fin 0 (fun q => absurd q (by decide)) (fun _ => ⟨rfl, M, hM4, rfl, fun z => z.elim q0 fun z => z.elim q4 fun z => z (by omega)⟩)))
    · refine x_go.back mn_R_settle (two (Or.inr (Or.inr fun z => q ?_)))
      show Int32.ofNat (voidsOf (d.2 M) (Int32.ofNat M)).length ≤ 0
      rw [z]
      decide
  · exact ⟨fun q => (q rfl).elim, fun _ => x_go.back mn_R_settle (x_go.run mn_R_settle 2 (fin 1 (fun _ => hb h0) (fun q => absurd q (by decide))))⟩
