section DB
variable {S : XH} {P : XP} {d : DS} {m st : Nat} {tr am : Int32} {vs : List R6} {e : R6} {p : Nat}
theorem CB.pon {q : Nat → Nat → Int32} {ls : Nat → List R6} (h : CB d q ls) {m : Nat} (hm : m < 4) {v : Int32} (hv : v ≠ 0) : CB (dset d 10 m v) (gs q 5 (upd (q 5) m 1)) ls := by
  obtain ⟨h1, h2, h3, h4, h5⟩ := h
  have e1 : ∀ k, k ≠ 10 → (dset d 10 m v).1 k = d.1 k := fun k hk => dset_nt hk
  have e2 : ∀ k, k ≠ 5 → gs q 5 (upd (q 5) m 1) k = q k := fun k hk => gs_ne hk
  refine ⟨h1, fun m' hm' => ?_, ?_, fun w hw => ?_, fun a ha => ?_⟩
  · obtain ⟨a1, a2, a3, a4, a5, a6, a7, a8⟩ := h2 m' hm'
    rw [e2 1 (by omega), e2 2 (by omega), e2 8 (by omega), e2 9 (by omega), e2 10 (by omega), e2 11 (by omega), e2 (20 + m') (by omega), e1 11 (by decide), e1 12 (by decide), e1 17 (by decide), e1 14 (by decide), e1 15 (by decide), e1 16 (by decide), e1 13 (by decide)]
    refine ⟨a1, a2, ?_, a4, a5, a6, a7, a8⟩
    rw [gs_self]
    by_cases e : m' = m
    · subst e
      rw [upd_self, dset_at', if_neg hv]
    · rw [upd_ne e, dset_nj e]
      exact a3
  · rw [gs_self, upd_ne (by omega), e1 9 (by decide)]
    exact h3
  · rw [e2 7 (by omega), e2 6 (by omega), e1 8 (by decide), e1 7 (by decide)]
    exact h4 w hw
  · rw [e2 12 (by omega), e1 18 (by decide)]
    exact h5 a ha
theorem KS.kmx (h : KS d S) (hm : m < 4) : ∃ tr am vs st, KM d m tr am vs st S ∧ st < 4 := by
  obtain ⟨q, s, cp, ls, h1, h2, h3, h4⟩ := h
  exact ⟨_, _, _, _, ⟨q, s, cp, ls, h1, h2.cx hm, h3, h4, rfl, rfl, rfl, rfl⟩, (h2.2.1 m hm).1⟩
theorem c_mon (h : KM d m tr am vs st S) (hm : m < 4) (hP : ∀ S', KM (dset d 10 m 1) m tr am vs st S' → fc S S' → P (.inl none) S') : Y_J_turnOn 0 0 [xv_r 4 m] S P := by
  obtain ⟨q, s, cp, ls, hR, hX, hc, hF, e3, e4, e6, es⟩ := h
  refine x_go.run mn_J_turnOn 5 ?_
  refine ⟨Or.inr rfl, _, hR.2.2.2.2.1 m (by omega), nl rfl, nl rfl, ?_⟩
  have r := hR.putJ (m := m) (by omega) (t := 5) ⟨by decide, by decide⟩ 1
  refine hP _ ⟨_, s, cp, ls, r, ⟨hX.1.pon hm (by decide), fun m' hm' hne => (hX.2.1 m' hm' hne).keep (by rw [dset_nj hne]) rfl (by rw [gs_ne (by decide)]) (by rw [gs_ne (by decide)]) rfl rfl, hX.2.2.1.keep rfl (by rw [gs_ne (by decide)]) (by rw [gs_ne (by decide)]), hX.2.2.2.1.keep rfl (by rw [gs_ne (by decide)]), hX.2.2.2.2⟩, hc.eq rfl, hF.up, by rw [gs_ne (by decide)]; exact e3, by rw [gs_ne (by decide)]; exact e4, e6, es⟩ (fc.rf.up (Or.inl (by simp)))
theorem dset_dset (d : DS) (n j : Nat) (v w : Int32) : dset (dset d n j v) n j w = dset d n j w := by
  refine ds_ext (fun k => ?_) rfl
  by_cases e : k = n
  · subst e
    rw [dset_at, dset_at, dset_at, upd_upd]
  · rw [dset_nt e, dset_nt e, dset_nt e]
/-- a VOID more, its cost told -/
theorem c_vac {cap : Nat} (h : KM d m tr am vs st S) (hm : m < 4) (hp : S 11 p = some (.inl (6, eR e))) (hl : vs.length ≤ 512) (h54 : rk S) (hL : LO S (6 + m) cap vs) (hc : cap ≤ 800)
    (hP : ∀ S', KM d m tr am (vs ++ [e]) st S' → LO S' (6 + m) (if vs.length = cap then gc cap else cap) (vs ++ [e]) → fc S S' → S' 10 = S 10 → S' 11 = S 11 → P (.inl (some (xv_i 1))) S') : Y_A_add (full vs cap) (full vs cap * gc cap) [xv_r 6 (6 + m), xv_r 11 p] S P := by
  obtain ⟨k1, k2, k3⟩ := lk6 hm
  have ka := c_add (e := e) (p := p) hL (by omega) (by rw [k1, k2, k3]; exact hp) (by omega) h.rf h54 (P := P) fun S' a1 a2 a3 => ?_
  · rw [k1] at ka
    exact ka
  · have hc' : (if vs.length = cap then gc cap else cap) ≤ 800 := by
      split
      · next z =>
        unfold gc
        split
        · decide
        · omega
      · exact hc
    exact hP S' (h.lst hm hc' a1 a2 a3) a1 (a2.fc (by omega)) (a2.k (by decide) (by omega)) (a2.k (by decide) (by omega))
set_option maxHeartbeats 4000000 in
theorem c_recall (h : KM d m tr am vs st S) (hro : ro S) (hm : m < 4) (hj : Jok m (d.2 m)) (hl : (d.2 m).length ≤ 1024) (hv : ∀ i, (voidsOf ((d.2 m).take i) (Int32.ofNat m)).length ≤ 512)
    (hP : ∀ S' am', KM d m (dlast d m) am' (voidsOf (d.2 m) (Int32.ofNat m)) st S' → (1 ≤ asks (d.2 m) → am' = amtOf (d.2 m) (Int32.ofNat m) (dlast d m)) → fc S S' → P (.inl none) S') : Y_M_recall 800 3200 [xv_r 3 m] S P := by
  have hal := asks_le (d.2 m)
  obtain ⟨k1, k2, k3⟩ := lk6 hm
  have loop : ∀ r i (S1 : XH) (am' : Int32) (cap u w : Nat) (j2 : Option XV), (d.2 m).length - i = r → i ≤ (d.2 m).length → KM d m (Int32.ofNat (asks ((d.2 m).take i))) am' (voidsOf ((d.2 m).take i) (Int32.ofNat m)) st S1 → LO S1 (6 + m) cap (voidsOf ((d.2 m).take i) (Int32.ofNat m)) → cap ≤ 800 → 800 - cap ≤ u → 4 * (800 - cap) ≤ w → (1 ≤ asks ((d.2 m).take i) → am' = amtOf ((d.2 m).take i) (Int32.ofNat m) (Int32.ofNat (asks ((d.2 m).take i)))) → fc S S1 →
      x_go b_M_recall P 14 [some (xv_r 3 m), some (xv_i (Int32.ofNat i)), j2] [] S1 u w := by
    intro r
    induction r with
    | zero =>
      intro i S1 am' cap u w j2 hr hi km lo hc hu hw ha f1
      have ei : i = (d.2 m).length := by omega
      subst ei
      rw [List.take_length] at km ha
      obtain ⟨q, s, cp, ls, hR, hX, -⟩ := id km
      have hls : ls m = d.2 m := hX.1.1 m (by omega)
      refine x_go.run mn_M_recall 10 ?_
      refine ⟨nl rfl, _, _, (km.obj hm), rfl, ?_⟩
      refine ⟨nl rfl, ⟨_, hR.2.2.2.2.1 m (by omega)⟩, rfl, nl rfl, 0, 0, Nat.zero_le _, Nat.zero_le _, c_jsize hR (by omega) ?_⟩
      rw [hls]
      exact ⟨fun _ => hP S1 am' km ha f1, fun c => (c ((z_le (by omega) (by omega)).mpr (Nat.le_refl _))).elim⟩
    | succ r ih =>
      intro i S1 am' cap u w j2 hr hi km lo hc hu hw ha f1
      have hi' : i < (d.2 m).length := by omega
      obtain ⟨s1, s2, s3, s4, s5, s6⟩ := recall_suc hj (by omega) hi'
      obtain ⟨q, s, cp, ls, hR, hX, -⟩ := id km
      have hls : ls m = d.2 m := hX.1.1 m (by omega)
      obtain ⟨fv, hfv⟩ := km.vobj hm
      refine x_go.run mn_M_recall 60 ?_
      refine ⟨nl rfl, _, _, (km.obj hm), rfl, ?_⟩
      refine ⟨nl rfl, ⟨_, hR.2.2.2.2.1 m (by omega)⟩, rfl, nl rfl, 0, 0, Nat.zero_le _, Nat.zero_le _, c_jsize hR (by omega) ?_⟩
      rw [hls]
      refine ⟨fun c => ?_, fun _ => ?_⟩
      · have := (z_le (by omega) (by omega)).mp c
        omega
      refine ⟨nl rfl, _, _, (km.obj hm), rfl, ?_⟩
      refine ⟨nl rfl, ⟨_, hR.2.2.2.2.1 m (by omega)⟩, rfl, nl rfl, 0, 0, Nat.zero_le _, Nat.zero_le _, c_entry hR (by omega) (by rw [hls]; exact hi') fun p hp => ?_⟩
      have hp : S1 11 p = some (.inl (6, eR (d.2 m)[i])) := by
        rw [hp]
        simp only [hls]
      -- the next
      have nxt : ∀ (S2 : XH) (am2 : Int32) (cap2 u2 w2 : Nat), KM d m (Int32.ofNat (asks ((d.2 m).take (i + 1)))) am2 (voidsOf ((d.2 m).take (i + 1)) (Int32.ofNat m)) st S2 → LO S2 (6 + m) cap2 (voidsOf ((d.2 m).take (i + 1)) (Int32.ofNat m)) → cap2 ≤ 800 → 800 - cap2 ≤ u2 → 4 * (800 - cap2) ≤ w2 → (1 ≤ asks ((d.2 m).take (i + 1)) → am2 = amtOf ((d.2 m).take (i + 1)) (Int32.ofNat m) (Int32.ofNat (asks ((d.2 m).take (i + 1))))) → fc S S2 → x_go b_M_recall P 97 [some (xv_r 3 m), some (xv_i (Int32.ofNat i)), some (xv_r 11 p)] [] S2 u2 w2 := by
        intro S2 am2 cap2 u2 w2 a1 a2 a3 a4 a5 a6 a7
        have kk := ih (i + 1) S2 am2 cap2 u2 w2 (some (xv_r 11 p)) (by omega) (by omega) a1 a2 a3 a4 a5 a6 a7
        rw [← z_suc] at kk
        exact x_go.run mn_M_recall 2 kk
      refine ⟨nl rfl, ⟨_, hp⟩, rfl, nl rfl, 0, 0, Nat.zero_le _, Nat.zero_le _, c_kind hp ?_⟩
      refine ⟨fun c1 => ?_, fun c1 => ?_⟩
      · have c1 : ¬ (d.2 m)[i].1 = 1 := c1
        rw [if_neg c1] at s1
        have ea : asks ((d.2 m).take (i + 1)) = asks ((d.2 m).take i) := s1
        have s3 := s3 c1
        refine ⟨nl rfl, ⟨_, hp⟩, rfl, nl rfl, 0, 0, Nat.zero_le _, Nat.zero_le _, c_kind hp ?_⟩
        refine ⟨fun c4 => ?_, fun c4 => ?_⟩
        · have c4 : ¬ (d.2 m)[i].1 = 4 := c4
          refine ⟨nl rfl, ⟨_, hp⟩, rfl, nl rfl, 0, 0, Nat.zero_le _, Nat.zero_le _, c_kind hp ?_⟩
          refine ⟨fun c5 => ?_, fun c5 => ?_⟩
          · have c5 : ¬ (d.2 m)[i].1 = 5 := c5
            have s6 := s6 c4 c5
            refine x_go.back mn_M_recall (nxt S1 am' cap _ _ (by rw [ea, s6]; exact km) (by rw [s6]; exact lo) hc hu hw (by rw [s3, ea]; exact ha) f1)
          · have c5 : (d.2 m)[i].1 = 5 := Classical.not_not.mp c5
            have s5 := s5 c5
            refine ⟨nl rfl, ⟨_, hp⟩, rfl, nl rfl, 0, 0, Nat.zero_le _, Nat.zero_le _, c_etrace hp ?_⟩
            refine ⟨nl rfl, ⟨_, km.obj hm⟩, rfl, nl rfl, 0, 0, Nat.zero_le _, Nat.zero_le _, c_forgetC (m := m) km hm lo hc fun S2 b1 b2 b3 => ?_⟩
            have s5' : voidsOf ((d.2 m).take (i + 1)) (Int32.ofNat m) = (voidsOf ((d.2 m).take i) (Int32.ofNat m)).filter (nott (d.2 m)[i].2.2.1) := s5
            refine x_go.back mn_M_recall (nxt S2 am' cap _ _ (by rw [ea, s5']; exact b1) (by rw [s5']; exact b2) hc hu hw (by rw [s3, ea]; exact ha) (f1.tr b3))
        · have c4 : (d.2 m)[i].1 = 4 := Classical.not_not.mp c4
          have s4 := s4 c4
          refine ⟨nl rfl, _, _, (km.obj hm), rfl, ?_⟩
          have hvi := hv i
          have hful : full (voidsOf ((d.2 m).take i) (Int32.ofNat m)) cap * gc cap + 4 * (800 - (if (voidsOf ((d.2 m).take i) (Int32.ofNat m)).length = cap then gc cap else cap)) ≤ 4 * (800 - cap) ∧ full (voidsOf ((d.2 m).take i) (Int32.ofNat m)) cap + (800 - (if (voidsOf ((d.2 m).take i) (Int32.ofNat m)).length = cap then gc cap else cap)) ≤ 800 - cap ∧ (if (voidsOf ((d.2 m).take i) (Int32.ofNat m)).length = cap then gc cap else cap) ≤ 800 := by
            have h10 : cap = 0 ∨ 10 ≤ cap := by
              obtain ⟨k, a, f, md, -, -, -, -, y, -⟩ := lo
              rcases y with ⟨-, -, y⟩ | ⟨-, y⟩
              · exact Or.inl y
              · exact Or.inr y
            unfold full
            by_cases y : (voidsOf ((d.2 m).take i) (Int32.ofNat m)).length = cap
            · rw [if_pos y, if_pos y]
              unfold gc
              split <;> omega
            · rw [if_neg y, if_neg y]
              omega
          refine ⟨nl rfl, ⟨_, hfv⟩, rfl, nl rfl, full (voidsOf ((d.2 m).take i) (Int32.ofNat m)) cap, full (voidsOf ((d.2 m).take i) (Int32.ofNat m)) cap * gc cap, by show _ ≤ u - 0 - 0 - 0 - 0; omega, by show _ ≤ w - 0 - 0 - 0 - 0; omega, c_vac (m := m) km hm hp hvi (hro.fc f1).2.2.2.2.2 lo hc fun S2 b1 b2 b3 _ _ => ?_⟩
          rw [← s4] at b1 b2
          refine x_go.back mn_M_recall (x_go.run mn_M_recall 2 (nxt S2 am' _ _ _ (by rw [ea]; exact b1) b2 hful.2.2 ?_ ?_ (by rw [s3, ea]; exact ha) (f1.tr b3)))
          · show _ ≤ u - 0 - 0 - 0 - 0 - _
            omega
          · show _ ≤ w - 0 - 0 - 0 - 0 - _
            omega
      · have c1 : (d.2 m)[i].1 = 1 := Classical.not_not.mp c1
        obtain ⟨s2, s2'⟩ := s2 c1
        have s6 := s6 (by rw [c1]; decide) (by rw [c1]; decide)
        refine ⟨nl rfl, ⟨_, hp⟩, rfl, nl rfl, 0, 0, Nat.zero_le _, Nat.zero_le _, c_etrace hp ?_⟩
        refine ⟨trivial, _, km.obj hm, nl rfl, nl rfl, ?_⟩
        have q1 := km.putT hm (d.2 m)[i].2.2.1 rfl rfl
        have hp' : x_up S1 3 m (.inl (3, (oMk m st (d.1 11 m) (d.1 12 m) (Int32.ofNat (asks ((d.2 m).take i))) am').set 8 (xv_i (d.2 m)[i].2.2.1))) 11 p = some (.inl (6, eR (d.2 m)[i])) := by
          rw [x_up_k (by decide)]
          exact hp
        refine ⟨nl rfl, ⟨_, hp'⟩, rfl, nl rfl, 0, 0, Nat.zero_le _, Nat.zero_le _, c_evalue hp' ?_⟩
        refine ⟨trivial, _, q1.obj hm, nl rfl, nl rfl, ?_⟩
        have q2 := q1.putA hm (d.2 m)[i].2.2.2.2.1 rfl rfl
        rw [s2, ← s6] at q2
        have lo2 : LO (x_up (x_up S1 3 m (.inl (3, (oMk m st (d.1 11 m) (d.1 12 m) (Int32.ofNat (asks ((d.2 m).take i))) am').set 8 (xv_i (d.2 m)[i].2.2.1)))) 3 m (.inl (3, (oMk m st (d.1 11 m) (d.1 12 m) (d.2 m)[i].2.2.1 am').set 9 (xv_i (d.2 m)[i].2.2.2.2.1)))) (6 + m) cap (voidsOf ((d.2 m).take (i + 1)) (Int32.ofNat m)) := by
          rw [s6]
          refine lo.keep (by rw [x_up_k (by decide), x_up_k (by decide)]) (by rw [x_up_k (by omega), x_up_k (by omega)]) (by rw [x_up_k (by decide), x_up_k (by decide)]) fun p c hc => ?_
          rw [x_up_k (by omega), x_up_k (by omega)]
          exact hc
        rw [s2] at lo2
        refine x_go.back mn_M_recall (x_go.run mn_M_recall 1 ?_)
        have kk := nxt _ _ cap (u - 0 - 0 - 0 - 0 - 0) (w - 0 - 0 - 0 - 0 - 0) q2 lo2 hc (by omega) (by omega) (fun _ => s2'.symm) (f1.tr ((fc.rf.up (Or.inl (by decide))).up (Or.inl (by decide))))
        rw [← s2] at kk
        exact kk
  obtain ⟨cap, lo, hc⟩ := h.lo hm
  refine x_go.run mn_M_recall 10 ?_
  refine ⟨trivial, _, h.obj hm, nl rfl, nl rfl, ?_⟩
  have q1 := h.putT hm 0 (acc := d.1 11 m) (wp := d.1 12 m) rfl rfl
  have g1 : fc S _ := fc.rf.up (S' := S) (k := 3) (i := m) (c := .inl (3, (oMk m st (d.1 11 m) (d.1 12 m) tr am).set 8 (xv_i 0))) (Or.inl (by decide))
  have lo1 : LO (x_up S 3 m (.inl (3, (oMk m st (d.1 11 m) (d.1 12 m) tr am).set 8 (xv_i 0)))) (6 + m) cap vs := by
    refine lo.keep (by rw [x_up_k (by decide)]) (by rw [x_up_k (by omega)]) (by rw [x_up_k (by decide)]) fun p c hc => ?_
    rw [x_up_k (by omega)]
    exact hc
  obtain ⟨fv, hfv⟩ := q1.vobj hm
  refine ⟨nl rfl, _, _, (q1.obj hm), rfl, ?_⟩
  refine ⟨nl rfl, ⟨_, hfv⟩, rfl, nl rfl, 0, 0, Nat.zero_le _, Nat.zero_le _, c_clear lo1 (by omega) q1.rf fun S2 b1 b2 b3 => ?_⟩
  have q2 := q1.lst hm hc b1 b2 b3
  exact x_go.back mn_M_recall (x_go.run mn_M_recall 2 (loop _ 0 S2 am cap _ _ none rfl (Nat.zero_le _) q2 b1 hc (by show _ ≤ 800 - 0; omega) (by show _ ≤ 3200 - 0; omega) (fun z => absurd z (by show ¬ 1 ≤ 0; decide)) (g1.tr (b2.fc (by omega)))))
end DB
