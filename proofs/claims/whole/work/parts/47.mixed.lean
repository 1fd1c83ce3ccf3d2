/-- the notes of machine m, as naturals -/
def nts (f : Nat → Int32) (m : Nat) (c : Nat) : Nat := (f (4 * m + c)).toNatClampNeg
def ntok (f : Nat → Int32) (m : Nat) : Prop := ∀ c, c < 4 → ∃ n : Nat, n ≤ 500 ∧ f (4 * m + c) = Int32.ofNat n
theorem ntok.eq {f : Nat → Int32} {m : Nat} (h : ntok f m) {c : Nat} (hc : c < 4) : f (4 * m + c) = Int32.ofNat (nts f m c) ∧ nts f m c ≤ 500 := by
  obtain ⟨n, h1, h2⟩ := h c hc
  unfold nts
  rw [h2, z_nat (by omega)]
  exact ⟨rfl, h1⟩
theorem z_4m (m c : Nat) : (4 : Int32) * Int32.ofNat m + Int32.ofNat c = Int32.ofNat (4 * m + c) := by
  rw [← z_add, ← z_mul]
  rfl
theorem z_min40 {n : Nat} (h : n ≤ 500) : (if Int32.ofNat n < (40 : Int32) then Int32.ofNat n else 40) = Int32.ofNat (min 40 n + 1) - 1 := by
  rw [z_suc1]
  have e : (Int32.ofNat n < (40 : Int32)) ↔ n < 40 := z_lt (b := 40) (by omega) (by decide)
  by_cases hn : n < 40
  · rw [if_pos (e.mpr hn), Nat.min_eq_right (by omega)]
  · rw [if_neg (fun q => hn (e.mp q)), Nat.min_eq_left (by omega)]
    rfl
/-- what mixed changes: the model's field best -/
def Mx (g : Nat → Nat → Int32) (S : XH) (g1 : Nat → Nat → Int32) (S1 : XH) : Prop := RM g1 S1 ∧ (∀ k, k ≠ 27 → g1 k = g k) ∧ fm S S1 ∧ S1 19 = S 19
def bst (g : Nat → Nat → Int32) (x : Q4) : Prop := g 27 0 = Int32.ofNat x.1 ∧ g 27 1 = Int32.ofNat x.2.1 ∧ g 27 2 = Int32.ofNat x.2.2.1 ∧ g 27 3 = Int32.ofNat x.2.2.2
set_option maxHeartbeats 4000000 in
theorem r_mixed {d : DS} {g : Nat → Nat → Int32} {S : XH} {P : XP} {m v : Nat} (hR : RM g S) (hD : MD d g) (hm : m < 4) (hv : v ≤ 1000) (hn : ntok (d.1 13) m)
    (h1 : ∀ x, IsMix (nts (d.1 13) m) v x → ∀ g' S', RM g' S' → MD d g' → bst g' x → (∀ k, k ≠ 27 → g' k = g k) → fm S S' → S' 19 = S 19 → P (.inl (some (xv_i 1))) S')
    (h0 : (∀ x, ¬ Feas (nts (d.1 13) m) v x) → ∀ g' S', RM g' S' → MD d g' → (∀ k, k ≠ 27 → g' k = g k) → fm S S' → S' 19 = S 19 → P (.inl (some (xv_i 0))) S') :
    Y_R_mixed 0 0 [xv_r 15 0, xv_i (Int32.ofNat m), xv_i (Int32.ofNat v)] S P := by
  have e13 : g 13 = d.1 13 := hD.1 13 rfl
  have hDx : ∀ {g1 : Nat → Nat → Int32} {S1 : XH}, Mx g S g1 S1 → MD d g1 := fun {g1 S1} h => by
    obtain ⟨a1, a2, a3, a4⟩ := hD
    refine ⟨fun k hk => ?_, ?_, fun w hw => (a3 w hw).keep fun k hk => h.2.1 k (by omega), a4.keep fun k hk hk' => h.2.1 k (by omega)⟩
    · rw [h.2.1 k (by rintro rfl; cases hk)]
      exact a1 k hk
    · rw [h.2.1 9 (by decide)]
      exact a2
  have hi : ∀ c, c < 4 → ((4 : Int32) * Int32.ofNat m + Int32.ofNat c).toNatClampNeg = 4 * m + c := fun c hc => by rw [z_4m, z_nat (by omega)]
  have hin : ∀ c, c < 4 → vp_in ((4 : Int32) * Int32.ofNat m + Int32.ofNat c) (ml 13) := fun c hc => by rw [z_4m]; exact z_in (by show _ < 16; omega) (by decide)
  have hi0 : ((4 : Int32) * Int32.ofNat m).toNatClampNeg = 4 * m := by rw [show (4 : Int32) * Int32.ofNat m = Int32.ofNat (4 * m) from z_mul 4 m, z_nat (by omega)]
  have hin0 : vp_in ((4 : Int32) * Int32.ofNat m) (ml 13) := by rw [show (4 : Int32) * Int32.ofNat m = Int32.ofNat (4 * m) from z_mul 4 m]; exact z_in (by show _ < 16; omega) (by decide)
  have hi1 : ((4 : Int32) * Int32.ofNat m + 1).toNatClampNeg = 4 * m + 1 := hi 1 (by decide)
  have hi2 : ((4 : Int32) * Int32.ofNat m + 2).toNatClampNeg = 4 * m + 2 := hi 2 (by decide)
  have hi3 : ((4 : Int32) * Int32.ofNat m + 3).toNatClampNeg = 4 * m + 3 := hi 3 (by decide)
  obtain ⟨n0, n0'⟩ := hn.eq (c := 0) (by decide)
  obtain ⟨n1, n1'⟩ := hn.eq (c := 1) (by decide)
  obtain ⟨n2, n2'⟩ := hn.eq (c := 2) (by decide)
  obtain ⟨n3, n3'⟩ := hn.eq (c := 3) (by decide)
  generalize hN : nts (d.1 13) m = N at *
  have ld : ∀ nd, nd ≤ min 40 (N 3) + 1 → ∀ (F : Nat) (x : Q4) (j5 j6 j7 j8 j9 : Option XV) (g1 : Nat → Nat → Int32) (S1 : XH), Mx g S g1 S1 → JS N v (fun y => nd ≤ y.2.2.2) F x → (F ≤ 40 → bst g1 x) →
      x_go b_R_mixed P 20 [some (xv_r 15 0), some (xv_i (Int32.ofNat m)), some (xv_i (Int32.ofNat v)), some (xv_i (Int32.ofNat F)), some (xv_i (Int32.ofNat nd - 1)), j5, j6, j7, j8, j9] [] S1 0 0 := by
    intro nd
    induction nd with
    | zero =>
      intro _ F x j5 j6 j7 j8 j9 g1 S1 hM hJ hB
      refine x_go.run mn_R_mixed 20 ?_
      refine ⟨fun _ => ?_, fun c => (c z_m1).elim⟩
      have hF := hJ.le
      rcases hJ.end (fun y _ => Nat.zero_le _) with ⟨q1, q2⟩ | ⟨q1, q2⟩
      · subst q1
        exact ⟨fun _ => ⟨Or.inl rfl, h0 q2 g1 S1 hM.1 (hDx hM) hM.2.1 hM.2.2.1 hM.2.2.2⟩, fun c => (c (by decide)).elim⟩
      · refine ⟨fun c => ?_, fun c => ⟨Or.inr rfl, h1 x q2 g1 S1 hM.1 (hDx hM) (hB q1) hM.2.1 hM.2.2.1 hM.2.2.2⟩⟩
        have := (z_lt (a := 40) (b := F) (by decide) (by omega)).mp c
        omega
    | succ nd ihd =>
      intro hnd F x j5 j6 j7 j8 j9 g1 S1 hM hJ hB
      have hd1 := ihd (by omega)
      have lc : ∀ nc, nc ≤ min 40 (N 2) + 1 → ∀ (F : Nat) (x : Q4) (j6 j7 j8 j9 : Option XV) (g1 : Nat → Nat → Int32) (S1 : XH), Mx g S g1 S1 → JS N v (fun y => nd < y.2.2.2 ∨ (y.2.2.2 = nd ∧ nc ≤ y.2.2.1)) F x → (F ≤ 40 → bst g1 x) →
          x_go b_R_mixed P 42 [some (xv_r 15 0), some (xv_i (Int32.ofNat m)), some (xv_i (Int32.ofNat v)), some (xv_i (Int32.ofNat F)), some (xv_i (Int32.ofNat nd)), some (xv_i (Int32.ofNat nc - 1)), j6, j7, j8, j9] [] S1 0 0 := by
        intro nc
        induction nc with
        | zero =>
          intro _ F x j6 j7 j8 j9 g1 S1 hM hJ hB
          refine x_go.run mn_R_mixed 4 ?_
          refine ⟨fun _ => ?_, fun c => (c z_m1).elim⟩
          have k := hd1 F x (some (xv_i (Int32.ofNat 0 - 1))) j6 j7 j8 j9 g1 S1 hM (hJ.mono fun y _ => by omega) hB
          rw [← z_dec (Int32.ofNat nd)] at k
          exact k
        | succ nc ihc =>
          intro hnc F x j6 j7 j8 j9 g1 S1 hM hJ hB
          have hc1 := ihc (by omega)
          have lb : ∀ nb, nb ≤ min 40 (N 1) + 1 → ∀ (F : Nat) (x : Q4) (j7 j8 j9 : Option XV) (g1 : Nat → Nat → Int32) (S1 : XH), Mx g S g1 S1 → JS N v (VB nd nc nb) F x → (F ≤ 40 → bst g1 x) →
              x_go b_R_mixed P 64 [some (xv_r 15 0), some (xv_i (Int32.ofNat m)), some (xv_i (Int32.ofNat v)), some (xv_i (Int32.ofNat F)), some (xv_i (Int32.ofNat nd)), some (xv_i (Int32.ofNat nc)), some (xv_i (Int32.ofNat nb - 1)), j7, j8, j9] [] S1 0 0 := by
            intro nb
            induction nb with
            | zero =>
              intro _ F x j7 j8 j9 g1 S1 hM hJ hB
              refine x_go.run mn_R_mixed 4 ?_
              refine ⟨fun _ => ?_, fun c => (c z_m1).elim⟩
              have k := hc1 F x (some (xv_i (Int32.ofNat 0 - 1))) j7 j8 j9 g1 S1 hM (hJ.mono fun y _ => by unfold VB; omega) hB
              rw [← z_dec (Int32.ofNat nc)] at k
              exact k
            | succ nb ihb =>
              intro hnb F x j7 j8 j9 g1 S1 hM hJ hB
              have hFle := hJ.le
              rw [z_suc1]
              have hnext : ∀ (F : Nat) (x : Q4) (j7 j8 j9 : Option XV) (g1 : Nat → Nat → Int32) (S1 : XH), Mx g S g1 S1 → JS N v (VB nd nc nb) F x → (F ≤ 40 → bst g1 x) →
                  x_go b_R_mixed P 180 [some (xv_r 15 0), some (xv_i (Int32.ofNat m)), some (xv_i (Int32.ofNat v)), some (xv_i (Int32.ofNat F)), some (xv_i (Int32.ofNat nd)), some (xv_i (Int32.ofNat nc)), some (xv_i (Int32.ofNat nb)), j7, j8, j9] [] S1 0 0 := by
                intro F x j7 j8 j9 g1 S1 hM hJ hB
                have k := ihb (by omega) F x j7 j8 j9 g1 S1 hM hJ hB
                rw [← z_dec (Int32.ofNat nb)] at k
                exact x_go.run mn_R_mixed 2 k
              have hrest : (Int32.ofNat v - 50 * Int32.ofNat nd - 20 * Int32.ofNat nc - 10 * Int32.ofNat nb).toInt = (v : Int) - 50 * nd - 20 * nc - 10 * nb := by
                rw [show (50 : Int32) * Int32.ofNat nd = Int32.ofNat (50 * nd) from z_mul 50 nd, show (20 : Int32) * Int32.ofNat nc = Int32.ofNat (20 * nc) from z_mul 20 nc, show (10 : Int32) * Int32.ofNat nb = Int32.ofNat (10 * nb) from z_mul 10 nb]
                rw [z_isub (z_isub (z_isub (z_toInt (by omega)) (z_toInt (by omega)) (by omega) (by omega)) (z_toInt (by omega)) (by omega) (by omega)) (z_toInt (by omega)) (by omega) (by omega)]
                omega
              refine x_go.run mn_R_mixed 28 ?_
              refine ⟨fun c => (z_neg (by omega) c).elim, fun _ => ?_⟩
              refine ⟨by decide, ?_⟩
              show x_go b_R_mixed P 109 [some (xv_r 15 0), some (xv_i (Int32.ofNat m)), some (xv_i (Int32.ofNat v)), some (xv_i (Int32.ofNat F)), some (xv_i (Int32.ofNat nd)), some (xv_i (Int32.ofNat nc)), some (xv_i (Int32.ofNat nb)), some (xv_i (Int32.ofNat v - 50 * Int32.ofNat nd - 20 * Int32.ofNat nc - 10 * Int32.ofNat nb)), some (xv_i ((Int32.ofNat v - 50 * Int32.ofNat nd - 20 * Int32.ofNat nc - 10 * Int32.ofNat nb) / 5)), some (xv_i ((Int32.ofNat v - 50 * Int32.ofNat nd - 20 * Int32.ofNat nc - 10 * Int32.ofNat nb) / 5 + Int32.ofNat nb + Int32.ofNat nc + Int32.ofNat nd))] [] S1 0 0
              by_cases hneg : v < 50 * nd + 20 * nc + 10 * nb
              · refine x_go.run mn_R_mixed 2 ?_
                refine ⟨fun _ => hnext F x _ _ _ g1 S1 hM (hJ.skip fun a ha => ?_) hB, fun c => ?_⟩
                · exfalso
                  have := ha.2.2.2.2.1
                  dsimp only at this
                  omega
                · exfalso
                  refine c (Int32.lt_iff_toInt_lt.mpr ?_)
                  show (Int32.ofNat v - 50 * Int32.ofNat nd - 20 * Int32.ofNat nc - 10 * Int32.ofNat nb).toInt < 0
                  rw [hrest]
                  omega
              · obtain ⟨r, hr⟩ : ∃ r : Nat, r + 50 * nd + 20 * nc + 10 * nb = v := ⟨v - 50 * nd - 20 * nc - 10 * nb, by omega⟩
                have er : Int32.ofNat v - 50 * Int32.ofNat nd - 20 * Int32.ofNat nc - 10 * Int32.ofNat nb = Int32.ofNat r := by
                  rw [← Int32.toInt_inj, hrest, z_toInt (by omega)]
                  omega
                have ea : Int32.ofNat r / 5 = Int32.ofNat (r / 5) := z_div (b := 5) (by omega) (by decide)
                rw [er, ea, z_add, z_add, z_add]
                refine x_go.run mn_R_mixed 60 ?_
                refine ⟨fun c => (z_neg (by omega) c).elim, fun _ => ?_⟩
                have e5 : Int32.ofNat (r / 5) * 5 = Int32.ofNat (r / 5 * 5) := z_mul (r / 5) 5
                refine ⟨fun c => ?_, fun c => ?_⟩
                · refine x_go.back mn_R_mixed (hnext F x _ _ _ g1 S1 hM (hJ.skip fun a ha => ?_) hB)
                  exfalso
                  have h5 := ha.2.2.2.2.1
                  dsimp only at h5
                  refine c ?_
                  show Int32.ofNat (r / 5) * 5 = Int32.ofNat r
                  rw [e5]
                  congr 1
                  omega
                · have c5 : r / 5 * 5 = r := by
                    have c := Classical.not_not.mp c
                    change Int32.ofNat (r / 5) * 5 = Int32.ofNat r at c
                    rw [e5] at c
                    exact (z_eq (by omega) (by omega)).mp c
                  refine ⟨nl rfl, _, _, hM.1.1, rfl, ?_⟩
                  refine ⟨_, _, hM.1.2.1 13 rfl, hin0, ?_⟩
                  rw [hi0, hM.2.1 13 (by decide), e13, show 4 * m = 4 * m + 0 from rfl, n0]
                  refine ⟨fun c => ?_, fun c => ?_⟩
                  · refine x_go.back mn_R_mixed (hnext F x _ _ _ g1 S1 hM (hJ.skip fun a ha => ?_) hB)
                    exfalso
                    have h5 := ha.2.2.2.2.1
                    have h6 := ha.1
                    dsimp only at h5 h6
                    have := (z_lt (by omega) (by omega)).mp c
                    omega
                  · have c6 : r / 5 ≤ N 0 := by
                      have c := Int32.not_lt.mp c
                      exact (z_le (by omega) (by omega)).mp c
                    refine ⟨fun c => ?_, fun c => ?_⟩
                    · have c7 : r / 5 + nb + nc + nd < F := (z_lt (by omega) (by omega)).mp c
                      refine ⟨nl rfl, _, _, hM.1.1, rfl, ?_⟩
                      refine ⟨_, _, hM.1.2.1 27 rfl, nl rfl, z_in (k := 0) (by decide) (by decide), ?_⟩
                      have hB0 := hM.1.ast (n := 27) rfl (upd (g1 27) 0 (Int32.ofNat (r / 5)))
                      refine ⟨nl rfl, _, _, hB0.1, rfl, ?_⟩
                      refine ⟨_, _, hB0.2.1 27 rfl, nl rfl, z_in (k := 1) (by decide) (by decide), ?_⟩
                      have hB1 := hB0.ast (n := 27) rfl (upd (upd (g1 27) 0 (Int32.ofNat (r / 5))) 1 (Int32.ofNat nb))
                      refine ⟨nl rfl, _, _, hB1.1, rfl, ?_⟩
                      refine ⟨_, _, hB1.2.1 27 rfl, nl rfl, z_in (k := 2) (by decide) (by decide), ?_⟩
                      have hB2 := hB1.ast (n := 27) rfl (upd (upd (upd (g1 27) 0 (Int32.ofNat (r / 5))) 1 (Int32.ofNat nb)) 2 (Int32.ofNat nc))
                      refine ⟨nl rfl, _, _, hB2.1, rfl, ?_⟩
                      refine ⟨_, _, hB2.2.1 27 rfl, nl rfl, z_in (k := 3) (by decide) (by decide), ?_⟩
                      have hB3 := hB2.ast (n := 27) rfl (upd (upd (upd (upd (g1 27) 0 (Int32.ofNat (r / 5))) 1 (Int32.ofNat nb)) 2 (Int32.ofNat nc)) 3 (Int32.ofNat nd))
                      refine x_go.back mn_R_mixed (hnext (r / 5 + nb + nc + nd) (r / 5, nb, nc, nd) _ _ _ _ _ ⟨hB3, fun k hk => ?_, ?_, ?_⟩ (hJ.take ?_ c7) fun _ => ⟨rfl, rfl, rfl, rfl⟩)
                      · rw [gs_ne hk, gs_ne hk, gs_ne hk, gs_ne hk]
                        exact hM.2.1 k hk
                      · exact (((hM.2.2.1.up (by decide) (by decide)).up (by decide) (by decide)).up (by decide) (by decide)).up (by decide) (by decide)
                      · rw [x_up_k (by decide), x_up_k (by decide), x_up_k (by decide), x_up_k (by decide)]
                        exact hM.2.2.2
                      · refine ⟨c6, ?_, ?_, ?_, ?_, ?_⟩
                        all_goals (try (unfold q4t)); dsimp only
                        all_goals omega
                    · refine x_go.back mn_R_mixed (x_go.run mn_R_mixed 1 (hnext F x _ _ _ g1 S1 hM (hJ.skip fun a ha => ?_) hB))
                      have h5 := ha.2.2.2.2.1
                      dsimp only at h5
                      have c7 : F ≤ r / 5 + nb + nc + nd := (z_le (by omega) (by omega)).mp (Int32.not_lt.mp c)
                      omega
          refine x_go.run mn_R_mixed 13 ?_
          refine ⟨fun c => (z_neg (n := nc) (by omega) (by rw [z_suc1] at c; exact c)).elim, fun _ => ?_⟩
          refine ⟨nl rfl, _, _, hM.1.1, rfl, ?_⟩
          refine ⟨_, _, hM.1.2.1 13 rfl, hin 1 (by decide), ?_⟩
          rw [hi1, hM.2.1 13 (by decide), e13, n1]
          refine ⟨nl rfl, ?_⟩
          have k := lb (min 40 (N 1) + 1) (by omega) F x j7 j8 j9 g1 S1 hM (hJ.mono fun y hy => ?_) hB
          · rw [← z_min40 n1'] at k
            rw [z_suc1]
            exact k
          · have h5 := hy.2.1
            have h6 := hy.2.2.2.2.2
            unfold q4t at h6
            unfold VB
            omega
      refine x_go.run mn_R_mixed 13 ?_
      refine ⟨fun c => (z_neg (n := nd) (by omega) (by rw [z_suc1] at c; exact c)).elim, fun _ => ?_⟩
      refine ⟨nl rfl, _, _, hM.1.1, rfl, ?_⟩
      refine ⟨_, _, hM.1.2.1 13 rfl, hin 2 (by decide), ?_⟩
      rw [hi2, hM.2.1 13 (by decide), e13, n2]
      refine ⟨nl rfl, ?_⟩
      have k := lc (min 40 (N 2) + 1) (by omega) F x j6 j7 j8 j9 g1 S1 hM (hJ.mono fun y hy => ?_) hB
      · rw [← z_min40 n2'] at k
        rw [z_suc1]
        exact k
      · have h5 := hy.2.2.1
        have h6 := hy.2.2.2.2.2
        unfold q4t at h6
        omega
  refine x_go.run mn_R_mixed 13 ?_
  refine ⟨nl rfl, _, _, hR.1, rfl, ?_⟩
  refine ⟨_, _, hR.2.1 13 rfl, hin 3 (by decide), ?_⟩
  rw [hi3, e13, n3]
  refine ⟨nl rfl, ?_⟩
  have k := ld (min 40 (N 3) + 1) (by omega) 41 (0, 0, 0, 0) none none none none none g S ⟨hR, fun _ _ => rfl, fm.rf, rfl⟩ (Or.inl ⟨rfl, fun y hy hd => ?_⟩) (fun q => by omega)
  · rw [← z_min40 n3'] at k
    exact k
  · have h5 := hy.2.2.2.1
    have h6 := hy.2.2.2.2.2
    unfold q4t at h6
    omega
