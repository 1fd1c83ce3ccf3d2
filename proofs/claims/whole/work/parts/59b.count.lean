theorem range_suc {β : Type} (f : β → Nat → β) (b : β) (n : Nat) : (List.range (n + 1)).foldl f b = f ((List.range n).foldl f b) n := by
  rw [List.range_succ, List.foldl_append]
  rfl
set_option maxHeartbeats 8000000 in
theorem r_count {d : DS} {g : Nat → Nat → Int32} {S : XH} {P : XP} {c : Int32} (hR : RM g S) (hD : MD d g) (hX : RX S)
    (hb : ¬ (0 ≤ c ∧ c ≤ 6) → mC d 1 S (fun S' => P (.inl (some (xv_i 0))) S'))
    (ho : ∀ C, C ≤ 6 → c = Int32.ofNat C → mC d 0 S (fun S' => P (.inl (some (xv_i (dcount d C)))) S')) : Y_R_count 0 0 [xv_r 15 0, xv_i c] S P := by
  have fin : ∀ th : Int32, (0 < th → mC d th S (fun S' => P (.inl (some (xv_i 0))) S')) → (th ≤ 0 → th = 0 ∧ ∃ C, C ≤ 6 ∧ c = Int32.ofNat C ∧ mC d 0 S (fun S' => P (.inl (some (xv_i (dcount d C)))) S')) →
      x_go b_R_count P 16 [some (xv_r 15 0), some (xv_i c), none, none, none] [xv_i th, xv_r 15 0] S 0 0 := by
    intro th hv hz
    refine x_go.run mn_R_count 40 ?_
    refine ⟨trivial, _, hR.1, nl rfl, nl rfl, ?_⟩
    obtain ⟨g1, a1, a2, a3, a4, a5, a6, a7⟩ := thr hR hD hX th
    show x_run b_R_count P (x_go b_R_count P) 39 19 [some (xv_r 15 0), some (xv_i c), none, none, none] [] (x_up S 15 0 (.inl (10, (mfl g).set 26 (xv_i th)))) 0 0
    generalize x_up S 15 0 (.inl (10, (mfl g).set 26 (xv_i th))) = S1 at a1 a5 a6 a7 ⊢
    refine ⟨nl rfl, _, _, a1.1, rfl, ?_⟩
    rw [a3]
    refine ⟨fun q => ?_, fun q => hv (Int32.not_le.mp q) g1 S1 a1 a2 a3 a5 a6⟩
    obtain ⟨v0, C, hC, rfl, h⟩ := hz q
    have h : ∀ v : Int32, v = dcount d C → P (.inl (some (xv_i v))) S1 := fun v e => by rw [e]; exact h g1 S1 a1 a2 (a3.trans v0) a5 a6
    unfold dcount at h
    have hJ4 := a2.2.2.1 4 (by decide)
    have hM2 := a2.2.2.2.2.1
    have ne : ∀ {k : Nat}, k ≤ 10 → C ≠ k → ¬ Int32.ofNat C = Int32.ofNat k := fun {k} hk hne q => hne ((z_eq (by omega) (by omega)).mp q)
    have eqn : ∀ {k : Nat}, k ≤ 10 → Int32.ofNat C = Int32.ofNat k → C = k := fun {k} hk q => (z_eq (by omega) (by omega)).mp q
    refine ⟨fun q0 => ?_, fun q0 => ?_⟩
    rotate_left
    · have c0 : C = 0 := eqn (k := 0) (by decide) (Classical.not_not.mp q0)
      rw [if_pos c0] at h
      refine ⟨nl rfl, _, _, a1.1, rfl, ?_⟩
      rw [a2.2.2.2.1]
      exact h _ rfl
    have c0 : C ≠ 0 := fun z => q0 (by rw [z]; rfl)
    rw [if_neg c0] at h
    refine ⟨fun q1 => ?_, fun q1 => ?_⟩
    rotate_left
    · have c1 : C = 1 := eqn (k := 1) (by decide) (Classical.not_not.mp q1)
      rw [if_pos c1] at h
      refine ⟨nl rfl, _, _, a1.1, rfl, ?_⟩
      rw [a2.2.1]
      refine ⟨fun z => ?_, fun z => ?_⟩
      · rw [if_pos z] at h
        exact h _ rfl
      · rw [if_neg z] at h
        exact h _ rfl
    have c1 : C ≠ 1 := fun z => q1 (by rw [z]; rfl)
    rw [if_neg c1] at h
    refine ⟨fun q2 => ?_, fun q2 => ?_⟩
    rotate_left
    · have c2 : C = 2 := eqn (k := 2) (by decide) (Classical.not_not.mp q2)
      rw [if_pos c2] at h
      refine ⟨nl rfl, _, _, a1.1, rfl, ?_⟩
      refine ⟨_, _, a1.2.1 6 rfl, z_in (k := 4) (by decide) (by decide), ?_⟩
      rw [show (4 : Int32).toNatClampNeg = 4 from rfl, hJ4.1]
      exact h _ rfl
    have c2 : C ≠ 2 := fun z => q2 (by rw [z]; rfl)
    rw [if_neg c2] at h
    refine ⟨fun q6 => ?_, fun q6 => ?_⟩
    rotate_left
    · have c6 : C = 6 := eqn (k := 6) (by decide) (Classical.not_not.mp q6)
      rw [if_pos c6] at h
      have loop : ∀ n i, (d.2 5).length - i = n → i ≤ (d.2 5).length →
          x_go b_R_count P 77 [some (xv_r 15 0), some (xv_i (Int32.ofNat C)), some (xv_i (Int32.ofNat (((d.2 5).take i).filter (fun e => e.1 == 510 && !(e.2.2.2.2.2 == 0))).length)), some (xv_i (Int32.ofNat i)), none] [] S1 0 0 := by
        intro n
        induction n with
        | zero =>
          intro i hn hi
          have e : i = (d.2 5).length := by omega
          refine x_go.run mn_R_count 30 ?_
          refine ⟨nl rfl, _, _, a1.1, rfl, ?_⟩
          rw [a2.2.2.2.1]
          refine ⟨fun _ => ?_, fun z => (z ((z_le (by omega) (by omega)).mpr (by omega))).elim⟩
          rw [e, List.take_length]
          exact h _ rfl
        | succ n ih =>
          intro i hn hi
          have hi' : i < (d.2 5).length := by omega
          obtain ⟨m1, m2, m3, m4, m5, m6⟩ := a2.2.2.2.2.2 i hi'
          have hnx := ih (i + 1) (by omega) (by omega)
          rw [cnt_suc hi', ← z_suc i] at hnx
          refine x_go.run mn_R_count 30 ?_
          refine ⟨nl rfl, _, _, a1.1, rfl, ?_⟩
          rw [a2.2.2.2.1]
          refine ⟨fun z => ?_, fun _ => ?_⟩
          · exfalso
            have := (z_le (by omega) (by omega)).mp z
            omega
          refine ⟨nl rfl, _, _, a1.1, rfl, ?_⟩
          refine ⟨_, _, a1.2.1 19 rfl, z_in (by show _ < 3000; omega) (by decide), ?_⟩
          rw [z_nat (by omega), m1]
          refine ⟨fun z => ?_, fun z => ?_⟩
          · have z : ¬ (d.2 5)[i].1 = 510 := z
            rw [if_neg (by simp [z])] at hnx
            exact x_go.back mn_R_count (x_go.run mn_R_count 2 hnx)
          have z5 : (d.2 5)[i].1 = 510 := Classical.not_not.mp z
          refine ⟨nl rfl, _, _, a1.1, rfl, ?_⟩
          refine ⟨_, _, a1.2.1 23 rfl, z_in (by show _ < 3000; omega) (by decide), ?_⟩
          rw [z_nat (by omega), m6]
          refine ⟨fun z => ?_, fun z => ?_⟩
          · have z : (d.2 5)[i].2.2.2.2.2 = 0 := z
            rw [if_neg (by simp [z])] at hnx
            exact x_go.back mn_R_count (x_go.run mn_R_count 2 hnx)
          · have z : ¬ (d.2 5)[i].2.2.2.2.2 = 0 := z
            rw [if_pos (by simp [z, z5]), ← z_suc] at hnx
            exact x_go.back mn_R_count (x_go.run mn_R_count 3 hnx)
      exact x_go.back mn_R_count (x_go.run mn_R_count 2 (loop _ 0 rfl (Nat.zero_le _)))
    have c6 : C ≠ 6 := fun z => q6 (by rw [z]; rfl)
    rw [if_neg c6] at h
    have acc : ∀ (f : Int32 → Nat → Int32), (C = 3 ∧ f = cstep3 d ∨ C = 4 ∧ f = cstep4 d ∨ C = 5 ∧ f = cstep5 d) → P (.inl (some (xv_i ((List.range 200).foldl f 0)))) S1 → ∀ j3 : Option XV,
        x_go b_R_count P 164 [some (xv_r 15 0), some (xv_i (Int32.ofNat C)), some (xv_i 0), j3, none] [] S1 0 0 := by
      intro f hf hP j3
      have loop : ∀ n i (j4 : Option XV), 200 - i = n → i ≤ 200 →
          x_go b_R_count P 166 [some (xv_r 15 0), some (xv_i (Int32.ofNat C)), some (xv_i ((List.range i).foldl f 0)), some (xv_i (Int32.ofNat i)), j4] [] S1 0 0 := by
        intro n
        induction n with
        | zero =>
          intro i j4 hn hi
          have e : i = 200 := by omega
          subst e
          refine x_go.run mn_R_count 30 ?_
          refine ⟨fun _ => hP, fun z => (z (by decide)).elim⟩
        | succ n ih =>
          intro i j4 hn hi
          have hnx : ∀ j4, x_go b_R_count P 234 [some (xv_r 15 0), some (xv_i (Int32.ofNat C)), some (xv_i (f ((List.range i).foldl f 0) i)), some (xv_i (Int32.ofNat i)), j4] [] S1 0 0 := by
            intro j4
            have := ih (i + 1) j4 (by omega) (by omega)
            rw [range_suc, ← z_suc i] at this
            exact x_go.run mn_R_count 2 this
          generalize (List.range i).foldl f 0 = v at hnx ⊢
          refine x_go.run mn_R_count 40 ?_
          refine ⟨fun z => ?_, fun _ => ?_⟩
          · exfalso
            have := (z_le (a := 200) (by decide) (by omega)).mp z
            omega
          refine ⟨nl rfl, ⟨_, a1.1⟩, rfl, nl rfl, 0, 0, Nat.zero_le _, Nat.zero_le _, (r_worth a1 hJ4 ?_)⟩
          rcases hf with ⟨e, rfl⟩ | ⟨e, rfl⟩ | ⟨e, rfl⟩
          · subst e
            refine ⟨fun z => (z rfl).elim, fun _ => ?_⟩
            exact x_go.back mn_R_count (x_go.run mn_R_count 5 (hnx _))
          · subst e
            refine ⟨fun _ => ?_, fun z => (z (by decide)).elim⟩
            refine ⟨fun z => (z rfl).elim, fun _ => ?_⟩
            refine ⟨nl rfl, _, _, a1.1, rfl, ?_⟩
            refine ⟨_, _, a1.2.1 18 rfl, z_in (by show i < 200; omega) (by decide), ?_⟩
            rw [z_nat (by omega), a2.1 18 rfl]
            unfold cstep4 at hnx
            refine ⟨fun z => ?_, fun z => ?_⟩
            · rw [if_neg (Int32.not_lt.mpr z)] at hnx
              exact x_go.back mn_R_count (hnx _)
            · rw [if_pos (Int32.not_le.mp z)] at hnx
              exact x_go.back mn_R_count (x_go.run mn_R_count 2 (hnx _))
          · subst e
            refine ⟨fun _ => ?_, fun z => (z (by decide)).elim⟩
            refine ⟨fun _ => ?_, fun z => (z (by decide)).elim⟩
            refine ⟨nl rfl, _, _, a1.1, rfl, ?_⟩
            refine ⟨_, _, a1.2.1 18 rfl, z_in (by show i < 200; omega) (by decide), ?_⟩
            rw [z_nat (by omega), a2.1 18 rfl]
            unfold cstep5 at hnx
            refine ⟨fun z => ?_, fun z => ?_⟩
            · rw [if_pos z] at hnx
              exact x_go.back mn_R_count (hnx _)
            · rw [if_neg z] at hnx
              exact x_go.back mn_R_count (x_go.run mn_R_count 1 (hnx _))
      exact x_go.run mn_R_count 2 (loop _ 0 none rfl (Nat.zero_le _))
    refine ⟨fun q5 => ?_, fun q5 => ?_⟩
    · have c5 : C ≠ 5 := fun z => q5 (by rw [z]; rfl)
      refine x_go.back mn_R_count ?_
      rcases (show C = 3 ∨ C = 4 by omega) with e | e
      · rw [if_pos e] at h
        exact acc _ (Or.inl ⟨e, rfl⟩) (h _ rfl) none
      · rw [if_neg (by omega), if_pos e] at h
        exact acc _ (Or.inr (Or.inl ⟨e, rfl⟩)) (h _ rfl) none
    · have c5 : C = 5 := eqn (k := 5) (by decide) (Classical.not_not.mp q5)
      rw [if_neg (by omega), if_neg (by omega)] at h
      have loop : ∀ n i, 4 - i = n → i ≤ 4 → (∀ m, m < i → ¬ dbusy d m) →
          x_go b_R_count P 124 [some (xv_r 15 0), some (xv_i (Int32.ofNat C)), some (xv_i 0), some (xv_i (Int32.ofNat i)), none] [] S1 0 0 := by
        intro n
        induction n with
        | zero =>
          intro i hn hi hq
          have e : i = 4 := by omega
          subst e
          refine x_go.run mn_R_count 30 ?_
          refine ⟨fun _ => ?_, fun z => (z (by decide)).elim⟩
          rw [if_pos (dquietb_iff.mpr hq)] at h
          exact x_go.back mn_R_count (acc _ (Or.inr (Or.inr ⟨c5, rfl⟩)) (h _ rfl) _)
        | succ n ih =>
          intro i hn hi hq
          have hi4 : i < 4 := by omega
          have busy : dbusy d i → x_go b_R_count P 156 [some (xv_r 15 0), some (xv_i (Int32.ofNat C)), some (xv_i 0), some (xv_i (Int32.ofNat i)), none] [] S1 0 0 := fun z => by
            rw [if_neg (fun y => dquietb_iff.mp y i hi4 z)] at h
            refine x_go.run mn_R_count 2 ?_
            exact h _ rfl
          have hJ := a2.2.2.1 i (by omega)
          have hcap := jcap_le (show i < 5 by omega) hJ.2.1
          have hvl := voids_le (d.2 i) (Int32.ofNat i)
          refine x_go.run mn_R_count 30 ?_
          refine ⟨fun z => ?_, fun _ => ?_⟩
          · exfalso
            have := (z_le (a := 4) (by decide) (by omega)).mp z
            omega
          refine ⟨nl rfl, _, _, a1.1, rfl, ?_⟩
          refine ⟨_, _, a1.2.1 10 rfl, z_in (by exact hi4) (by decide), ?_⟩
          rw [z_nat (by omega), a2.1 10 rfl]
          refine ⟨fun z => x_go.back mn_R_count (busy (Or.inl z)), fun z0 => ?_⟩
          refine ⟨nl rfl, _, _, a1.1, rfl, ?_⟩
          refine ⟨_, _, a1.2.1 10 rfl, z_in (by exact hi4) (by decide), ?_⟩
          rw [z_nat (by omega), a2.1 10 rfl]
          refine ⟨fun z => x_go.back mn_R_count (busy (Or.inr (Or.inl z))), fun z4 => ?_⟩
          refine ⟨nl rfl, ⟨_, a1.1⟩, rfl, nl rfl, 0, 0, Nat.zero_le _, Nat.zero_le _, (r_voids a1 (by omega) hJ ?_)⟩
          refine ⟨fun z => ?_, fun z => ?_⟩
          · have z := (z_le (b := 0) (by omega) (by decide)).mp z
            have hnx := ih (i + 1) (by omega) (by omega) fun m hm => by
              rcases Nat.lt_succ_iff_lt_or_eq.mp hm with y | rfl
              · exact hq m y
              · exact fun y => y.elim z0 fun y => y.elim z4 fun y => y (by omega)
            rw [← z_suc i] at hnx
            exact x_go.back mn_R_count (x_go.run mn_R_count 2 hnx)
          · refine x_go.back mn_R_count (busy (Or.inr (Or.inr fun y => z ?_)))
            show Int32.ofNat (voidsOf (d.2 i) (Int32.ofNat i)).length ≤ 0
            rw [y]
            decide
      exact x_go.back mn_R_count (x_go.run mn_R_count 2 (loop _ 0 rfl (Nat.zero_le _) (fun m hm => by omega)))
  refine x_go.run mn_R_count 40 ?_
  refine ⟨nl rfl, rfl, nl rfl, 0, 0, Nat.zero_le _, Nat.zero_le _, r_in (fun h1 h2 => ?_) (fun h0 => ?_)⟩
  · refine ⟨fun q => absurd q (by decide), fun _ => ?_⟩
    obtain ⟨C, hC, rfl⟩ := in_nat 6 (by decide) h1 h2
    exact x_go.back mn_R_count (x_go.run mn_R_count 2 (fin 0 (fun q => absurd q (by decide)) (fun _ => ⟨rfl, C, hC, rfl, ho C hC rfl⟩)))
  · exact ⟨fun _ => x_go.back mn_R_count (x_go.run mn_R_count 1 (fin 1 (fun _ => hb h0) (fun q => absurd q (by decide)))), fun q => (q rfl).elim⟩
