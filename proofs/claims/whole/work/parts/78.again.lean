section CO
variable {S : XH} {P : XP} {d : DS} {m st : Nat} {tr am : Int32} {vs : List R6}
theorem dagS_fst (m : Nat) : ∀ (vs : List R6) (d : DS), (dagS m d vs).1 = d.1
  | [], _ => rfl
  | e :: vs, d => by
    show (dagS m (dsent d _) vs).1 = _
    rw [dagS_fst m vs, dsent_1]
theorem dsent_grow (d : DS) (e : R6) : (d.2 5).length ≤ ((dsent d e).2 5).length := by
  rw [dsent_len]
  split <;> omega
theorem dsent_cap {e : R6} (h : (d.2 5).length ≤ 3000) : ((dsent d e).2 5).length ≤ 3000 := by
  rw [dsent_len]
  split <;> omega
theorem dagS_grow (m : Nat) : ∀ (vs : List R6) (d : DS), (d.2 5).length ≤ ((dagS m d vs).2 5).length
  | [], _ => Nat.le_refl _
  | e :: vs, d => Nat.le_trans (dsent_grow d _) (dagS_grow m vs _)
theorem dagS_cap (m : Nat) : ∀ (vs : List R6) (d : DS), (d.2 5).length ≤ 3000 → ((dagS m d vs).2 5).length ≤ 3000
  | [], _, h => h
  | e :: vs, d, h => dagS_cap m vs _ (dsent_cap h)
theorem dagS_app (m : Nat) (d : DS) (a b : List R6) : dagS m d (a ++ b) = dagS m (dagS m d a) b := List.foldl_append
theorem c_repeat {mc ms : Nat} (hK : KS d S) (hro : ro S) (hm : m < 4) (h5 : (d.2 5).length ≤ 3000) (hmc : 1 + (nK ((dagS m d (voidsOf (d.2 m) (Int32.ofNat m))).2 5).length - nK (d.2 5).length) ≤ mc) (hms : 6 + (nS ((dagS m d (voidsOf (d.2 m) (Int32.ofNat m))).2 5).length - nS (d.2 5).length) ≤ ms)
    (h2 : (dagain d m).2.1 = 2 → kT (dagain d m).1 S 12 P) (h0 : (dagain d m).2.1 = 0 → kN (dagain d m).1 S (fun S' => P (.inl (some (xv_i (dagain d m).2.2))) S')) : Y_M_repeatReversals mc ms [xv_r 3 m] S P := by
  obtain ⟨q, s, cp, ls, hR, hA, hc, hF⟩ := id hK
  unfold dagain at h0 h2
  have hM := hR.2.2.2.1 m hm
  refine x_go.run mn_M_repeatReversals 4 ?_
  refine ⟨nl rfl, _, _, hM, rfl, ?_⟩
  refine ⟨nl rfl, ⟨_, hR.2.2.2.2.1 m (by omega)⟩, rfl, nl rfl, 0, 0, Nat.zero_le _, Nat.zero_le _, c_ison hR (by omega) (by rw [hA.on hm]; exact on01) ?_⟩
  rw [hA.on hm]
  by_cases c0 : d.1 10 m = 0
  · rw [if_pos c0] at h2 ⊢
    exact ⟨nl rfl, rfl, nl rfl, 1, 6, by show 1 ≤ mc - 0; omega, by show 6 ≤ ms - 0; omega, c_demand0 hF (nl rfl) (nl rfl) fun nx hn => (h2 rfl).use hK hn⟩
  rw [if_neg c0] at h0 ⊢
  refine ⟨nl rfl, rfl, nl rfl, 0, 0, Nat.zero_le _, Nat.zero_le _, c_demand1 ?_⟩
  obtain ⟨am, st, k0, st4, est, eam⟩ := hK.km hm c0
  generalize hvs : voidsOf (d.2 m) (Int32.ofNat m) = vs at *
  have h54 : ∀ {S'}, fc S S' → rk S' := fun {S'} z => (hro.fc z).2.2.2.2.2
  have lo : ∀ {d' : DS} {S' : XH}, KM d' m (dlast d m) am vs st S' → ∃ cap, LO S' (6 + m) cap vs := by
    rintro d' S' ⟨q', s', cp', ls', hR', hX', hc', hF', e3, e4, e6, es⟩
    have := hR'.2.2.2.2.2.2.2.2 (6 + m) (by omega)
    rw [e6] at this
    exact ⟨_, this⟩
  obtain ⟨cap0, lo0⟩ := lo k0
  have hlen := lo0.len
  have loop : ∀ r i (S1 : XH) (u w : Nat) (j2 : Option XV), vs.length - i = r → i ≤ vs.length → KM (dagS m d (vs.take i)) m (dlast d m) am vs st S1 → fc S S1 → nK ((dagS m d vs).2 5).length ≤ u + nK ((dagS m d (vs.take i)).2 5).length → nS ((dagS m d vs).2 5).length ≤ w + nS ((dagS m d (vs.take i)).2 5).length →
      x_go b_M_repeatReversals P 12 [some (xv_r 3 m), some (xv_i (Int32.ofNat i)), j2] [] S1 u w := by
    intro r
    induction r with
    | zero =>
      intro i S1 u w j2 hr hi k1 f1 b1 b2
      have ei : i = vs.length := by omega
      subst ei
      rw [List.take_length] at k1
      obtain ⟨cap1, lo1⟩ := lo k1
      obtain ⟨fv, hfv⟩ := k1.vobj hm
      refine x_go.run mn_M_repeatReversals 12 ?_
      refine ⟨nl rfl, _, _, (k1.obj hm), rfl, ?_⟩
      refine ⟨nl rfl, ⟨_, hfv⟩, rfl, nl rfl, 0, 0, Nat.zero_le _, Nat.zero_le _, c_size lo1 ?_⟩
      refine ⟨fun _ => ?_, fun c => (c ((z_le (by omega) (by omega)).mpr (Nat.le_refl _))).elim⟩
      refine ⟨nl rfl, _, _, (k1.obj hm), rfl, ?_⟩
      refine ⟨nl rfl, ⟨_, hfv⟩, rfl, nl rfl, 0, 0, Nat.zero_le _, Nat.zero_le _, c_size lo1 ?_⟩
      refine h0 rfl S1 (k1.ks fun _ => ?_) f1
      have e2 : (dagS m d vs).2 m = d.2 m := dagS_ne (by omega) _ _
      unfold dlast
      rw [dagS_fst, e2]
      exact ⟨est, rfl, hvs.symm, eam⟩
    | succ r ih =>
      intro i S1 u w j2 hr hi k1 f1 b1 b2
      have hi' : i < vs.length := by omega
      obtain ⟨cap1, lo1⟩ := lo k1
      obtain ⟨fv, hfv⟩ := k1.vobj hm
      obtain ⟨fn, hnet⟩ := k1.net
      refine x_go.run mn_M_repeatReversals 40 ?_
      refine ⟨nl rfl, _, _, (k1.obj hm), rfl, ?_⟩
      refine ⟨nl rfl, ⟨_, hfv⟩, rfl, nl rfl, 0, 0, Nat.zero_le _, Nat.zero_le _, c_size lo1 ?_⟩
      refine ⟨fun c => ?_, fun _ => ?_⟩
      · have := (z_le (by omega) (by omega)).mp c
        omega
      refine ⟨nl rfl, _, _, (k1.obj hm), rfl, ?_⟩
      have e1 : lk (6 + m) = 11 := if_neg (by omega)
      have e2 : lcl (6 + m) = 6 := if_neg (by omega)
      have e3 : ∀ e, lR (6 + m) e = eR e := fun e => if_neg (by omega)
      refine ⟨nl rfl, ⟨_, hfv⟩, rfl, nl rfl, 0, 0, Nat.zero_le _, Nat.zero_le _, c_get lo1 (by omega) hi' fun p hp => ?_⟩
      rw [e1] at hp ⊢
      rw [e2, e3] at hp
      refine ⟨nl rfl, ⟨_, hp⟩, ?_⟩
      refine ⟨nl rfl, _, _, (k1.obj hm), rfl, ?_⟩
      refine ⟨nl rfl, _, _, (k1.obj hm), rfl, ?_⟩
      refine ⟨nl rfl, ⟨_, hp⟩, rfl, nl rfl, 0, 0, Nat.zero_le _, Nat.zero_le _, c_etrace hp ?_⟩
      refine ⟨nl rfl, ⟨_, hp⟩, rfl, nl rfl, 0, 0, Nat.zero_le _, Nat.zero_le _, c_evalue hp ?_⟩
      have es : dagS m d (vs.take (i + 1)) = dsent (dagS m d (vs.take i)) (420, Int32.ofNat m, vs[i].2.2.1, 0, vs[i].2.2.2.2.1, 0) := fold_suc hi'
      have g1 : ((dagS m d (vs.take (i + 1))).2 5).length ≤ ((dagS m d vs).2 5).length := by
        have := dagS_grow m (vs.drop (i + 1)) (dagS m d (vs.take (i + 1)))
        rw [← dagS_app, List.take_append_drop] at this
        exact this
      have g2 : ((dagS m d (vs.take i)).2 5).length ≤ ((dagS m d (vs.take (i + 1))).2 5).length := by
        rw [es]
        exact dsent_grow _ _
      have m1 := nK_mono g1
      have m2 := nK_mono g2
      have m3 := nS_mono g1
      have m4 := nS_mono g2
      have c3 : ((dagS m d (vs.take i)).2 5).length ≤ 3000 := dagS_cap _ _ _ h5
      have ls1 : ((dagS m d (vs.take i)).2 5).length < 3000 → ((dagS m d (vs.take (i + 1))).2 5).length = ((dagS m d (vs.take i)).2 5).length + 1 := fun z => by
        rw [es, dsent_len, if_neg (by omega)]
      refine ⟨nl rfl, ⟨_, hnet⟩, rfl, nl rfl, nK ((dagS m d (vs.take (i + 1))).2 5).length - nK ((dagS m d (vs.take i)).2 5).length, nS ((dagS m d (vs.take (i + 1))).2 5).length - nS ((dagS m d (vs.take i)).2 5).length, by show _ ≤ u - 0 - 0 - 0 - 0; omega, by show _ ≤ w - 0 - 0 - 0 - 0; omega, c_sd (420, Int32.ofNat m, vs[i].2.2.1, 0, vs[i].2.2.2.2.1, 0) k1 hm (by show ¬ (420 : Int32) = 510; decide) c3 (h54 f1) (fun z => by rw [ls1 z]; exact Nat.le_refl _) (fun z => by rw [ls1 z]; exact Nat.le_refl _) fun S2 k2 f2 _ => ?_⟩
      rw [← es] at k2
      have kk := ih (i + 1) S2 (u - 0 - 0 - 0 - 0 - (nK ((dagS m d (vs.take (i + 1))).2 5).length - nK ((dagS m d (vs.take i)).2 5).length)) (w - 0 - 0 - 0 - 0 - (nS ((dagS m d (vs.take (i + 1))).2 5).length - nS ((dagS m d (vs.take i)).2 5).length)) (some (xv_r 11 p)) (by omega) (by omega) k2 (f1.tr f2) (by omega) (by omega)
      rw [← z_suc] at kk
      exact x_go.back mn_M_repeatReversals (x_go.run mn_M_repeatReversals 3 kk)
  have mm := nK_mono (dagS_grow m vs d)
  have mm' := nS_mono (dagS_grow m vs d)
  refine x_go.back mn_M_repeatReversals (x_go.run mn_M_repeatReversals 2 (loop _ 0 S _ _ none rfl (Nat.zero_le _) k0 fc.rf ?_ ?_))
  · show _ ≤ mc - 0 - 0 + nK (d.2 5).length
    omega
  · show _ ≤ ms - 0 - 0 + nS (d.2 5).length
    omega
end CO
