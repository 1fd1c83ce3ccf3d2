section CE
variable {S : XH} {P : XP} {d : DS}
theorem c_enter {m : Nat} {p : Int32} (hK : KS d S) (hm : m < 4) (h0 : ¬ d.1 10 m = 2 → kT d S 12 P) (h1 : d.1 10 m = 2 → kN (dpin d m p).1 S (fun S' => P (.inl (some (xv_i (dpin d m p).2.2))) S')) : Y_M_enter 1 6 [xv_r 3 m, xv_i p] S P := by
  obtain ⟨q, s, cp, ls, hR, hA, hc, hF⟩ := id hK
  have bad : ¬ d.1 10 m = 2 → x_go b_M_enter P 24 [some (xv_r 3 m), some (xv_i p)] [] S 1 6 := fun h => by
    refine x_go.run mn_M_enter 3 ?_
    exact ⟨nl rfl, rfl, nl rfl, 1, 6, nl rfl, nl rfl, c_demand0 hF (nl rfl) (nl rfl) fun nx hn => (h0 h).use hK hn⟩
  have hM := hR.2.2.2.1 m hm
  refine x_go.run mn_M_enter 50 ?_
  refine ⟨nl rfl, _, _, hM, rfl, ?_⟩
  refine ⟨nl rfl, ⟨_, hR.2.2.2.2.1 m (by omega)⟩, rfl, nl rfl, 0, 0, Nat.zero_le _, Nat.zero_le _, c_ison hR (by omega) (by rw [hA.on hm]; exact on01) ?_⟩
  rw [hA.on hm]
  refine ⟨fun c => x_go.back mn_M_enter (bad fun z => ?_), fun c => ?_⟩
  · have c := on_iff.mp c
    rw [c] at z
    cases z
  have c0 : d.1 10 m ≠ 0 := fun z => c (on_iff.mpr z)
  refine ⟨nl rfl, _, _, hM, rfl, ?_⟩
  refine ⟨Or.inr (Or.inr ⟨rfl, Or.inl rfl⟩), fun c2 => x_go.back mn_M_enter (bad fun z => c2 ((st_eq (hA.2.1 m hm) c0 (by decide)).mpr z)), fun c2 => ?_⟩
  have e1 : d.1 10 m = 2 := (st_eq (hA.2.1 m hm) c0 (k := 1) (by decide)).mp (Classical.not_not.mp c2)
  have h1 := h1 e1
  unfold dpin at h1
  rw [if_pos e1] at h1
  obtain ⟨b1, b2, -⟩ := hA.1.2.1 m hm
  refine ⟨nl rfl, rfl, nl rfl, 0, 0, Nat.zero_le _, Nat.zero_le _, c_demand1 ?_⟩
  refine ⟨nl rfl, _, _, hM, rfl, ?_⟩
  refine ⟨fun c3 => ?_, fun c3 => ?_⟩
  · have c3 : ¬ p = 1000 + 37 * d.1 11 m := by
      rw [← b1]
      exact c3
    rw [if_neg c3] at h1
    have r1 := hR.putM hm (t := 2) ⟨by decide, by decide⟩ (q 2 m + 1)
    have hB := hA.1.mset (m := m) (Or.inr (Or.inl ⟨rfl, rfl⟩)) (q 2 m + 1)
    refine ⟨nl rfl, _, _, hM, rfl, ?_⟩
    refine ⟨trivial, _, hM, nl rfl, nl rfl, ?_⟩
    have hM1 := r1.2.2.2.1 m hm
    refine ⟨nl rfl, _, _, hM1, rfl, ?_⟩
    rw [show gs q 2 (upd (q 2) m (q 2 m + 1)) 2 m = d.1 12 m + 1 by rw [gs_at, b2]]
    refine ⟨fun c4 => ?_, fun c4 => ?_⟩
    · rw [if_neg c4] at h1
      rw [← b2] at h1
      refine ⟨Or.inl rfl, h1 _ ⟨_, _, cp, ls, r1, hA.mach (m := m) hB ?_ (fun m' hm' hne => ⟨?_, rfl, rfl, rfl, rfl, rfl⟩) rfl rfl rfl rfl rfl, hc.eq rfl, hF.up⟩ (fc.rf.up (Or.inl (by simp)))⟩
      · exact (hA.2.1 m hm).keep (by rw [dset_nt (by decide)]) rfl rfl rfl rfl rfl
      · rw [dset_nt (by decide)]
    · rw [if_pos (Classical.not_not.mp c4)] at h1
      rw [← b2] at h1
      refine ⟨trivial, _, hM1, nl rfl, nl rfl, ?_⟩
      have r2 := r1.putS hm 0
      have e10 : (dset d 12 m (q 2 m + 1)).1 10 = d.1 10 := dset_nt (by decide)
      have hB2 := hB.st (m := m) (v := 1) (by rw [e10]; exact c0) (by decide)
      refine ⟨Or.inl rfl, h1 _ ⟨_, _, cp, ls, r2, hA.mach (m := m) hB2 ?_ (fun m' hm' hne => ⟨?_, rfl, rfl, rfl, if_neg hne, rfl⟩) rfl rfl rfl rfl rfl, hc.eq rfl, hF.up.up⟩ ((fc.rf.up (Or.inl (by simp))).up (Or.inl (by simp)))⟩
      · exact (hA.2.1 m hm).to c0 (k := 0) (by decide) (dset_at' _ _ _ _) rfl rfl (if_pos rfl) rfl
      · rw [dset_nj hne, e10]
  · have c3 : p = 1000 + 37 * d.1 11 m := by
      rw [← b1]
      exact Classical.not_not.mp c3
    rw [if_pos c3] at h1
    refine ⟨trivial, _, hM, nl rfl, nl rfl, ?_⟩
    have r1 := hR.putS hm 2
    have hB := hA.1.st (m := m) (v := 3) c0 (by decide)
    refine ⟨Or.inr rfl, h1 _ ⟨_, _, cp, ls, r1, hA.mach (m := m) hB ?_ (fun m' hm' hne => ⟨?_, rfl, rfl, rfl, if_neg hne, rfl⟩) rfl rfl rfl rfl rfl, hc.eq rfl, hF.up⟩ (fc.rf.up (Or.inl (by simp)))⟩
    · exact (hA.2.1 m hm).to c0 (k := 2) (by decide) (dset_at' _ _ _ _) rfl rfl (if_pos rfl) rfl
    · rw [dset_nj hne]
theorem c_pin {m p : Int32} (hK : KS d S) (hb : ¬ (0 ≤ m ∧ m ≤ 3) → kT d S 11 P) (ho : ∀ M, M < 4 → m = Int32.ofNat M → ((dpin d M p).2.1 = 2 → kT (dpin d M p).1 S 12 P) ∧ ((dpin d M p).2.1 = 0 → kN (dpin d M p).1 S (fun S' => P (.inl (some (xv_i (dpin d M p).2.2))) S'))) : Y_C_pin 3 18 [xv_r 0 0, xv_i m, xv_i p] S P := by
  obtain ⟨q, s, cp, ls, hR, hA, hc, hF⟩ := id hK
  refine x_go.run mn_C_pin 30 ?_
  refine ⟨nl rfl, ⟨_, hR.1⟩, rfl, nl rfl, 1, 6, nl rfl, nl rfl, c_machineAt hR hF (fun h nx hn => (hb h).use hK hn) fun M hM e => ?_⟩
  subst e
  obtain ⟨o1, o2⟩ := ho M hM rfl
  have hv : (dpin d M p).2.2 = 0 ∨ (dpin d M p).2.2 = 1 := by
    unfold dpin
    split
    · split
      · exact Or.inr rfl
      · exact Or.inl rfl
    · exact Or.inl rfl
  refine ⟨nl rfl, ⟨_, hR.2.2.2.1 M hM⟩, rfl, nl rfl, 1, 6, nl rfl, nl rfl, c_enter hK hM (fun z => ?_) (fun z => ?_)⟩
  · have e2 : dpin d M p = (d, 2, 0) := if_neg z
    rw [e2] at o1
    exact o1 rfl
  · have e2 : (dpin d M p).2.1 = 0 := by
      unfold dpin
      rw [if_pos z]
      split <;> rfl
    exact fun S' a b => ⟨hv, o2 e2 S' a b⟩
theorem c_jam {m j : Int32} (hK : KS d S) (hb : ¬ (0 ≤ m ∧ m ≤ 3 ∧ 0 ≤ j ∧ j ≤ 41) → kT d S 11 P) (ho : ∀ M J, M < 4 → J ≤ 41 → m = Int32.ofNat M → j = Int32.ofNat J → kN (dset d 17 M (Int32.ofNat J)) S (fun S' => P (.inl none) S')) : Y_C_jam 3 18 [xv_r 0 0, xv_i m, xv_i j] S P := by
  obtain ⟨q, s, cp, ls, hR, hA, hc, hF⟩ := id hK
  refine x_go.run mn_C_jam 30 ?_
  refine ⟨nl rfl, ⟨_, hR.1⟩, rfl, nl rfl, 1, 6, nl rfl, nl rfl, c_machineAt hR hF (fun h nx hn => (hb fun z => h ⟨z.1, z.2.1⟩).use hK hn) fun M hM e => ?_⟩
  subst e
  have bad : ∀ j' : Option XV, ¬ (0 ≤ j ∧ j ≤ 41) → x_go b_C_jam P 20 [some (xv_r 0 0), some (xv_i (Int32.ofNat M)), some (xv_i j), j'] [] S 2 12 := fun j' h => by
    refine x_go.run mn_C_jam 3 ?_
    exact ⟨nl rfl, rfl, nl rfl, 1, 6, nl rfl, nl rfl, c_allow0 hF (nl rfl) (nl rfl) fun nx hn => (hb fun z => h z.2.2).use hK hn⟩
  refine ⟨fun c => x_go.back mn_C_jam (bad _ fun z => Int32.not_lt.mpr z.1 c), fun c => ⟨fun c' => x_go.back mn_C_jam (bad _ fun z => Int32.not_lt.mpr z.2 c'), fun c' => ?_⟩⟩
  obtain ⟨J, hJ, rfl⟩ := in_nat 41 (by decide) (Int32.not_lt.mp c) (Int32.not_lt.mp c')
  refine ⟨nl rfl, rfl, nl rfl, 0, 0, Nat.zero_le _, Nat.zero_le _, c_allow1 ?_⟩
  refine ⟨nl rfl, _, _, (hR.2.2.2.1 M hM), rfl, ?_⟩
  refine ⟨trivial, _, hR.2.2.2.2.2.1 M hM, nl rfl, nl rfl, ?_⟩
  have r1 := hR.putD hM (t := 8) ⟨by decide, by decide⟩ (Int32.ofNat J)
  have hB := hA.1.mset (m := M) (Or.inr (Or.inr (Or.inl ⟨rfl, rfl⟩))) (Int32.ofNat J)
  refine ho M J hM hJ rfl rfl _ ⟨_, _, cp, ls, r1, hA.mach (m := M) hB ?_ (fun m' hm' hne => ⟨?_, rfl, rfl, rfl, rfl, rfl⟩) rfl rfl rfl rfl rfl, hc.eq rfl, hF.up⟩ (fc.rf.up (Or.inl (by simp)))
  · exact (hA.2.1 M hM).keep (by rw [dset_nt (by decide)]) rfl rfl rfl rfl rfl
  · rw [dset_nt (by decide)]
end CE
