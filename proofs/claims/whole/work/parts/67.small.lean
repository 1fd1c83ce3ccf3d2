section CD
variable {q : Nat → Nat → Int32} {s cp : Nat → Nat} {ls : Nat → List R6} {S : XH} {P : XP} {d : DS}
theorem capok.eq (h : capok d cp) {d' : DS} (e : d'.2 5 = d.2 5) : capok d' cp := by
  unfold capok
  rw [e]
  exact h
/-- machine m alone has changed -/
theorem CA.mach (h : CA d q s ls) {d' : DS} {q' : Nat → Nat → Int32} {s' : Nat → Nat} {ls' : Nat → List R6} {m : Nat} (hB : CB d' q' ls') (hM : CM d' q' s' ls' m) (ho : ∀ m', m' < 4 → m' ≠ m → d'.1 10 m' = d.1 10 m' ∧ d'.2 m' = d.2 m' ∧ q' 3 m' = q 3 m' ∧ q' 4 m' = q 4 m' ∧ s' m' = s m' ∧ ls' (6 + m') = ls (6 + m')) (h4 : d'.2 4 = d.2 4) (h00 : q' 0 0 = q 0 0) (h13 : q' 13 = q 13) (h5 : cwrong (d'.2 5) = cwrong (d.2 5)) (h01 : q' 0 1 = q 0 1) : CA d' q' s' ls' := by
  refine ⟨hB, fun m' hm' => ?_, h.2.2.1.keep h4 h00 h13, ?_⟩
  · by_cases e : m' = m
    · subst e
      exact hM
    · obtain ⟨a1, a2, a3, a4, a5, a6⟩ := ho m' hm' e
      exact (h.2.1 m' hm').keep a1 a2 a3 a4 a5 a6
  · unfold CT
    rw [h5, h01]
    exact h.2.2.2
theorem on_iff {x : Int32} : (if x = 0 then (0 : Int32) else 1) = 0 ↔ x = 0 := by
  by_cases h : x = 0
  · rw [if_pos h]
    exact ⟨fun _ => h, fun _ => rfl⟩
  · rw [if_neg h]
    exact ⟨fun z => absurd z (by decide), fun z => (h z).elim⟩
theorem gs_at {g : Nat → Nat → Int32} {n j : Nat} {v : Int32} : gs g n (upd (g n) j v) n j = v := by rw [gs_self, upd_self]
/-- the same JOURNAL, another state than WAITS -/
theorem CM.to {m k : Nat} (h : CM d q s ls m) (h0 : d.1 10 m ≠ 0) {d' : DS} {q' : Nat → Nat → Int32} {s' : Nat → Nat} {ls' : Nat → List R6} (hk : k < 3) (e1 : d'.1 10 m = Int32.ofNat (k + 1)) (e2 : d'.2 m = d.2 m) (e3 : q' 3 m = q 3 m) (e5 : s' m = k) (e6 : ls' (6 + m) = ls (6 + m)) : CM d' q' s' ls' m := by
  obtain ⟨-, h2⟩ := h
  obtain ⟨a1, a2, a3, -⟩ := h2 h0
  have el : dlast d' m = dlast d m := by
    show Int32.ofNat (asks (d'.2 m)) = _
    rw [e2]
  refine ⟨by rw [e5]; omega, fun _ => ⟨by rw [e1, e5], by rw [e3, a2, el], by rw [e6, a3, e2], fun z => ?_⟩⟩
  rw [e1, show (4 : Int32) = Int32.ofNat 4 from rfl, z_eq (by omega) (by decide)] at z
  omega
theorem c_insert {m a : Nat} (hK : KS d S) (hm : m < 4) (h0 : ¬ d.1 10 m = 1 → kT d S 12 P) (h1 : d.1 10 m = 1 → kN (dset (dset (dset d 10 m 2) 11 m (Int32.ofNat a)) 12 m 0) S (fun S' => P (.inl none) S')) : Y_M_insert 1 6 [xv_r 3 m, xv_i (Int32.ofNat a)] S P := by
  obtain ⟨q, s, cp, ls, hR, hA, hc, hF⟩ := id hK
  have bad : ¬ d.1 10 m = 1 → x_go b_M_insert P 24 [some (xv_r 3 m), some (xv_i (Int32.ofNat a))] [] S 1 6 := fun h => by
    refine x_go.run mn_M_insert 3 ?_
    exact ⟨nl rfl, rfl, nl rfl, 1, 6, nl rfl, nl rfl, c_demand0 hF (nl rfl) (nl rfl) fun nx hn => (h0 h).use hK hn⟩
  have hM := hR.2.2.2.1 m hm
  refine x_go.run mn_M_insert 30 ?_
  refine ⟨nl rfl, _, _, hM, rfl, ?_⟩
  refine ⟨nl rfl, ⟨_, hR.2.2.2.2.1 m (by omega)⟩, rfl, nl rfl, 0, 0, Nat.zero_le _, Nat.zero_le _, c_ison hR (by omega) (by rw [hA.on hm]; exact on01) ?_⟩
  rw [hA.on hm]
  refine ⟨fun c => x_go.back mn_M_insert (bad fun z => ?_), fun c => ?_⟩
  · have c := on_iff.mp c
    rw [c] at z
    cases z
  have c0 : d.1 10 m ≠ 0 := fun z => c (on_iff.mpr z)
  refine ⟨nl rfl, _, _, hM, rfl, ?_⟩
  refine ⟨Or.inr (Or.inr ⟨rfl, Or.inl rfl⟩), fun c2 => x_go.back mn_M_insert (bad fun z => c2 ((st_eq (hA.2.1 m hm) c0 (by decide)).mpr z)), fun c2 => ?_⟩
  have e1 : d.1 10 m = 1 := (st_eq (hA.2.1 m hm) c0 (k := 0) (by decide)).mp (Classical.not_not.mp c2)
  refine ⟨nl rfl, rfl, nl rfl, 0, 0, Nat.zero_le _, Nat.zero_le _, c_demand1 ?_⟩
  refine ⟨trivial, _, hM, nl rfl, nl rfl, ?_⟩
  have r1 := hR.putM hm (t := 1) ⟨by decide, by decide⟩ (Int32.ofNat a)
  refine ⟨trivial, _, r1.2.2.2.1 m hm, nl rfl, nl rfl, ?_⟩
  have r2 := r1.putM hm (t := 2) ⟨by decide, by decide⟩ 0
  refine ⟨trivial, _, r2.2.2.2.1 m hm, nl rfl, nl rfl, ?_⟩
  have r3 := r2.putS hm 1
  have hB := ((hA.1.st (m := m) (v := 2) c0 (by decide)).mset (m := m) (Or.inl ⟨rfl, rfl⟩) (Int32.ofNat a)).mset (m := m) (Or.inr (Or.inl ⟨rfl, rfl⟩)) 0
  refine h1 e1 _ ⟨_, _, cp, ls, r3, hA.mach (m := m) hB ?_ (fun m' hm' hne => ⟨?_, rfl, rfl, rfl, if_neg hne, rfl⟩) rfl rfl rfl rfl rfl, hc.eq rfl, hF.up.up.up⟩ (((fc.rf.up (Or.inl (by simp))).up (Or.inl (by simp))).up (Or.inl (by simp)))
  · refine (hA.2.1 m hm).to c0 (k := 1) (by decide) ?_ rfl rfl (if_pos rfl) rfl
    rw [dset_nt (by decide), dset_nt (by decide), dset_at']
    rfl
  · rw [dset_nt (by decide), dset_nt (by decide), dset_nj hne]
theorem c_card {m a : Int32} (hK : KS d S) (hb : ¬ (0 ≤ m ∧ m ≤ 3 ∧ 0 ≤ a ∧ a ≤ 199) → kT d S 11 P) (ho : ∀ M A, M < 4 → A < 200 → m = Int32.ofNat M → a = Int32.ofNat A → ((dcard d M A).2 = 2 → kT (dcard d M A).1 S 12 P) ∧ ((dcard d M A).2 = 0 → kN (dcard d M A).1 S (fun S' => P (.inl none) S'))) : Y_C_card 3 18 [xv_r 0 0, xv_i m, xv_i a] S P := by
  obtain ⟨q, s, cp, ls, hR, hA, hc, hF⟩ := id hK
  refine x_go.run mn_C_card 30 ?_
  refine ⟨nl rfl, ⟨_, hR.1⟩, rfl, nl rfl, 1, 6, nl rfl, nl rfl, c_machineAt hR hF (fun h nx hn => (hb fun z => h ⟨z.1, z.2.1⟩).use hK hn) fun M hM e => ?_⟩
  refine ⟨nl rfl, rfl, nl rfl, 0, 0, Nat.zero_le _, Nat.zero_le _, c_isAccount (fun g1 g2 => ?_) (fun g => ?_)⟩
  · obtain ⟨A, hA', rfl⟩ := in_nat 199 (by decide) g1 g2
    subst e
    obtain ⟨o1, o2⟩ := ho M A hM (by omega) rfl rfl
    refine ⟨nl rfl, rfl, nl rfl, 0, 0, Nat.zero_le _, Nat.zero_le _, c_allow1 ?_⟩
    refine ⟨nl rfl, ⟨_, hR.2.2.2.1 M hM⟩, rfl, nl rfl, 1, 6, nl rfl, nl rfl, c_insert hK hM (fun z => ?_) (fun z => ?_)⟩
    · have e2 : dcard d M A = (d, 2) := if_neg z
      rw [e2] at o1
      exact o1 rfl
    · have e2 : dcard d M A = (dset (dset (dset d 10 M 2) 11 M (Int32.ofNat A)) 12 M 0, 0) := if_pos z
      rw [e2] at o2
      exact o2 rfl
  · exact ⟨nl rfl, rfl, nl rfl, 1, 6, nl rfl, nl rfl, c_allow0 hF (nl rfl) (nl rfl) fun nx hn => (hb fun z => g z.2.2).use hK hn⟩
end CD
