section CP
variable {S : XH} {P : XP} {d : DS} {m st : Nat} {tr am : Int32} {vs : List R6}
theorem c_again {m : Int32} {mc ms : Nat} (hK : KS d S) (hro : ro S) (h5 : (d.2 5).length ≤ 3000) (hmc : ∀ M, M < 4 → m = Int32.ofNat M → 2 + (nK ((dagS M d (voidsOf (d.2 M) (Int32.ofNat M))).2 5).length - nK (d.2 5).length) ≤ mc) (hms : ∀ M, M < 4 → m = Int32.ofNat M → 12 + (nS ((dagS M d (voidsOf (d.2 M) (Int32.ofNat M))).2 5).length - nS (d.2 5).length) ≤ ms) (hmc' : 2 ≤ mc) (hms' : 12 ≤ ms)
    (hb : ¬ (0 ≤ m ∧ m ≤ 3) → kT d S 11 P) (ho : ∀ M, M < 4 → m = Int32.ofNat M → ((dagain d M).2.1 = 2 → kT (dagain d M).1 S 12 P) ∧ ((dagain d M).2.1 = 0 → kN (dagain d M).1 S (fun S' => P (.inl (some (xv_i (dagain d M).2.2))) S'))) : Y_C_again mc ms [xv_r 0 0, xv_i m] S P := by
  obtain ⟨q, s, cp, ls, hR, hA, hc, hF⟩ := id hK
  refine x_go.run mn_C_again 10 ?_
  refine ⟨nl rfl, ⟨_, hR.1⟩, rfl, nl rfl, 1, 6, by omega, by omega, c_machineAt hR hF (fun h nx hn => (hb h).use hK hn) fun M hM e => ?_⟩
  have b1 := hmc M hM e
  have b2 := hms M hM e
  obtain ⟨o1, o2⟩ := ho M hM e
  exact ⟨nl rfl, ⟨_, hR.2.2.2.1 M hM⟩, rfl, nl rfl, mc - 1, ms - 6, Nat.le_refl _, Nat.le_refl _, c_repeat (m := M) hK hro hM h5 (by omega) (by omega) o1 o2⟩
theorem sum3_suc {l : List R6} {i : Nat} (hi : i < l.length) : sum3 (l.take (i + 1)) = s3step (sum3 (l.take i)) l[i] := fold_suc hi
theorem c_totals (hK : KS d S) (hro : ro S) (hm : m < 4) (h5 : (d.2 5).length ≤ 3000) (h2 : (dsettle d m).2.1 = 2 → kT (dsettle d m).1 S 12 P) (h0 : (dsettle d m).2.1 = 0 → kN (dsettle d m).1 S (fun S' => P (.inl (some (xv_i (dsettle d m).2.2))) S')) : Y_M_sendTotals 3 4511 [xv_r 3 m] S P := by
  obtain ⟨q, s, cp, ls, hR, hA, hc, hF⟩ := id hK
  unfold dsettle at h0 h2
  have hM := hR.2.2.2.1 m hm
  refine x_go.run mn_M_sendTotals 3 ?_
  refine ⟨nl rfl, ⟨_, hM⟩, rfl, nl rfl, 0, 0, Nat.zero_le _, Nat.zero_le _, c_mquiet (m := m) hR hA hm (fun z => ?_) (fun z => ?_)⟩
  · have z : d.1 10 m = 0 ∨ d.1 10 m = 4 ∨ (voidsOf (d.2 m) (Int32.ofNat m)).length ≠ 0 := z
    rw [if_pos z] at h2
    exact ⟨nl rfl, rfl, nl rfl, 1, 6, nl rfl, nl rfl, c_demand0 hF (nl rfl) (nl rfl) fun nx hn => (h2 rfl).use hK hn⟩
  · have z' : ¬ (d.1 10 m = 0 ∨ d.1 10 m = 4 ∨ (voidsOf (d.2 m) (Int32.ofNat m)).length ≠ 0) := z
    rw [if_neg z'] at h0
    refine ⟨nl rfl, rfl, nl rfl, 0, 0, Nat.zero_le _, Nat.zero_le _, c_demand1 ?_⟩
    have c0 : d.1 10 m ≠ 0 := fun y => z (Or.inl y)
    obtain ⟨am, st, k0, st4, est, eam⟩ := hK.km hm c0
    have els : ls m = d.2 m := hA.1.1 m (by omega)
    have hlen := (hR.2.2.2.2.2.2.2.2 m (by omega)).len
    rw [els] at hlen
    have loop : ∀ r i (j3 : Option XV), (d.2 m).length - i = r → i ≤ (d.2 m).length → x_go b_M_sendTotals P 11 [some (xv_r 3 m), some (xv_i (sum3 ((d.2 m).take i))), some (xv_i (Int32.ofNat i)), j3] [] S 3 4511 := by
      intro r
      induction r with
      | zero =>
        intro i j3 hr hi
        have ei : i = (d.2 m).length := by omega
        subst ei
        rw [List.take_length]
        obtain ⟨fj, hj⟩ := k0.jobj hm
        obtain ⟨fn, hnet⟩ := k0.net
        refine x_go.run mn_M_sendTotals 30 ?_
        refine ⟨nl rfl, _, _, hM, rfl, ?_⟩
        refine ⟨nl rfl, ⟨_, hj⟩, rfl, nl rfl, 0, 0, Nat.zero_le _, Nat.zero_le _, c_jsize hR (by omega) ?_⟩
        rw [els]
        refine ⟨fun _ => ?_, fun c => (c ((z_le (by omega) (by omega)).mpr (Nat.le_refl _))).elim⟩
        refine ⟨nl rfl, _, _, (k0.obj hm), rfl, ?_⟩
        refine ⟨nl rfl, _, _, (k0.obj hm), rfl, ?_⟩
        refine ⟨nl rfl, _, _, (k0.obj hm), rfl, ?_⟩
        refine ⟨nl rfl, ⟨_, hnet⟩, rfl, nl rfl, 2, 4505, nl rfl, nl rfl, c_sd (500, Int32.ofNat m, dlast d m, 0, sum3 (d.2 m), 0) k0 hm (by show ¬ (500 : Int32) = 510; decide) h5 hro.2.2.2.2.2 (fun z => (nS_step z).2) (fun z => (nS_step z).1) fun S1 k1 f1 _ => ?_⟩
        refine h0 rfl S1 (k1.ks fun _ => ?_) f1
        unfold dlast
        rw [dsent_1, dsent_ne (by omega)]
        exact ⟨est, rfl, rfl, eam⟩
      | succ r ih =>
        intro i j3 hr hi
        have hi' : i < (d.2 m).length := by omega
        obtain ⟨fj, hj⟩ := k0.jobj hm
        refine x_go.run mn_M_sendTotals 30 ?_
        refine ⟨nl rfl, _, _, hM, rfl, ?_⟩
        refine ⟨nl rfl, ⟨_, hj⟩, rfl, nl rfl, 0, 0, Nat.zero_le _, Nat.zero_le _, c_jsize hR (by omega) ?_⟩
        rw [els]
        refine ⟨fun c => ?_, fun _ => ?_⟩
        · have := (z_le (by omega) (by omega)).mp c
          omega
        refine ⟨nl rfl, _, _, hM, rfl, ?_⟩
        refine ⟨nl rfl, ⟨_, hj⟩, rfl, nl rfl, 0, 0, Nat.zero_le _, Nat.zero_le _, c_entry hR (by omega) (by rw [els]; exact hi') fun p hp => ?_⟩
        have hp : S 11 p = some (.inl (6, eR (d.2 m)[i])) := by
          rw [hp]
          simp only [els]
        have nxt : ∀ v : Int32, v = sum3 ((d.2 m).take (i + 1)) → x_go b_M_sendTotals P 46 [some (xv_r 3 m), some (xv_i v), some (xv_i (Int32.ofNat i)), some (xv_r 11 p)] [] S 3 4511 := fun v hv => by
          have kk := ih (i + 1) (some (xv_r 11 p)) (by omega) (by omega)
          rw [← hv, ← z_suc] at kk
          exact x_go.run mn_M_sendTotals 2 kk
        rw [sum3_suc hi'] at nxt
        unfold s3step at nxt
        refine ⟨nl rfl, ⟨_, hp⟩, rfl, nl rfl, 0, 0, Nat.zero_le _, Nat.zero_le _, c_kind hp ?_⟩
        refine ⟨fun c => ?_, fun c => ?_⟩
        · rw [if_neg c] at nxt
          exact x_go.back mn_M_sendTotals (nxt _ rfl)
        · rw [if_pos (Classical.not_not.mp c)] at nxt
          refine ⟨nl rfl, ⟨_, hp⟩, rfl, nl rfl, 0, 0, Nat.zero_le _, Nat.zero_le _, c_evalue hp ?_⟩
          exact x_go.back mn_M_sendTotals (x_go.run mn_M_sendTotals 2 (nxt _ rfl))
    exact x_go.back mn_M_sendTotals (x_go.run mn_M_sendTotals 4 (loop _ 0 none rfl (Nat.zero_le _)))
theorem c_settle {m : Int32} (hK : KS d S) (hro : ro S) (h5 : (d.2 5).length ≤ 3000) (hb : ¬ (0 ≤ m ∧ m ≤ 3) → kT d S 11 P) (ho : ∀ M, M < 4 → m = Int32.ofNat M → ((dsettle d M).2.1 = 2 → kT (dsettle d M).1 S 12 P) ∧ ((dsettle d M).2.1 = 0 → kN (dsettle d M).1 S (fun S' => P (.inl (some (xv_i (dsettle d M).2.2))) S'))) : Y_C_settle 8 7000 [xv_r 0 0, xv_i m] S P := by
  obtain ⟨q, s, cp, ls, hR, hA, hc, hF⟩ := id hK
  refine x_go.run mn_C_settle 10 ?_
  refine ⟨nl rfl, ⟨_, hR.1⟩, rfl, nl rfl, 1, 6, nl rfl, nl rfl, c_machineAt hR hF (fun h nx hn => (hb h).use hK hn) fun M hM e => ?_⟩
  obtain ⟨o1, o2⟩ := ho M hM e
  exact ⟨nl rfl, ⟨_, hR.2.2.2.1 M hM⟩, rfl, nl rfl, 3, 4511, nl rfl, nl rfl, c_totals hK hro hM h5 o1 o2⟩
end CP
