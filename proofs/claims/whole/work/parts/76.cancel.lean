section CM
variable {S : XH} {P : XP} {d : DS} {m st : Nat} {tr am : Int32} {vs : List R6}
theorem KM.toSt (h : KM d m tr am vs st S) (hm : m < 4) (h0 : d.1 10 m ≠ 0) {k : Nat} (hk : k < 4) {acc wp : Int32} (ea : acc = d.1 11 m) (ew : wp = d.1 12 m) : KM (dset d 10 m (Int32.ofNat (k + 1))) m tr am vs k (x_up S 3 m (.inl (3, (oMk m st acc wp tr am).set 5 (xv_r 49 k)))) := by
  obtain ⟨q, s, cp, ls, hR, hX, hc, hF, e3, e4, e6, es⟩ := h
  obtain ⟨b1, b2, -⟩ := hX.1.2.1 m hm
  have r := hR.putS hm k
  have eo : oM q s m = oMk m st acc wp tr am := by
    unfold oM oMk
    rw [b1, b2, e3, e4, es, ea, ew]
  rw [eo] at r
  have nz : Int32.ofNat (k + 1) ≠ 0 := fun z => by
    have := (z_eq (b := 0) (by omega) (by decide)).mp z
    omega
  refine ⟨q, _, cp, ls, r, ⟨hX.1.st h0 nz, fun m' hm' hne => (hX.2.1 m' hm' hne).keep (by rw [dset_nj hne]) rfl rfl rfl (if_neg hne) rfl, hX.2.2.1.keep rfl rfl rfl, hX.2.2.2.1.keep rfl rfl, ?_⟩, hc.eq rfl, hF.up, e3, e4, e6, if_pos rfl⟩
  show (if m = m then k else s m) < 4
  rw [if_pos rfl]
  exact hk
theorem len_inv {n : Nat} (hi : Inv n d) (hn : n ≤ 512) (hm : m < 4) : (d.2 m).length ≤ 1024 ∧ (voidsOf (d.2 m) (Int32.ofNat m)).length ≤ 512 := by
  have h1 := (hi.1 m hm).1.2.1
  have h2 := voids_c4 (d.2 m) (Int32.ofNat m)
  have h3 := (Jok.void (hi.1 m hm).1.1 (by omega)).1
  have h4 := (hi.1 m hm).2.2
  omega
theorem z_sub0 (x : Int32) : x - 0 = x := Int32.sub_zero x
/-- the last withdrawal is given up -/
theorem c_giveUp {n : Nat} (hK : KS d S) (hro : ro S) (hm : m < 4) (hi : Inv n d) (hn : n ≤ 512) (h5 : (d.2 5).length ≤ 3000)
    (h0 : (dcancel d m).2 = 2 → kT (dcancel d m).1 S 12 P) (h1 : (dcancel d m).2 = 3 → kT (dcancel d m).1 S 14 P) (h2 : (dcancel d m).2 = 0 → kN (dcancel d m).1 S (fun S' => P (.inl none) S')) : Y_M_giveUp 7 6941 [xv_r 3 m] S P := by
  obtain ⟨q, s, cp, ls, hR, hA, hc, hF⟩ := id hK
  unfold dcancel at h0 h1 h2
  have bad : d.1 10 m = 0 ∨ d.1 10 m = 1 → x_go b_M_giveUp P 24 [some (xv_r 3 m)] [] S 7 6941 := fun h => by
    rw [if_pos h] at h0
    refine x_go.run mn_M_giveUp 3 ?_
    exact ⟨nl rfl, rfl, nl rfl, 1, 6, nl rfl, nl rfl, c_demand0 hF (nl rfl) (nl rfl) fun nx hn => (h0 rfl).use hK hn⟩
  have hM := hR.2.2.2.1 m hm
  refine x_go.run mn_M_giveUp 30 ?_
  refine ⟨nl rfl, _, _, hM, rfl, ?_⟩
  refine ⟨nl rfl, ⟨_, hR.2.2.2.2.1 m (by omega)⟩, rfl, nl rfl, 0, 0, Nat.zero_le _, Nat.zero_le _, c_ison hR (by omega) (by rw [hA.on hm]; exact on01) ?_⟩
  rw [hA.on hm]
  refine ⟨fun c => x_go.back mn_M_giveUp (bad (Or.inl (on_iff.mp c))), fun c => ?_⟩
  have c0 : d.1 10 m ≠ 0 := fun z => c (on_iff.mpr z)
  refine ⟨nl rfl, _, _, hM, rfl, ?_⟩
  refine ⟨Or.inr (Or.inr ⟨rfl, Or.inl rfl⟩), fun c2 => x_go.back mn_M_giveUp (bad (Or.inr ((st_eq (hA.2.1 m hm) c0 (k := 0) (by decide)).mp c2))), fun c2 => ?_⟩
  have c1 : d.1 10 m ≠ 1 := fun z => c2 ((st_eq (hA.2.1 m hm) c0 (k := 0) (by decide)).mpr z)
  rw [if_neg (by rintro (z | z); exact c0 z; exact c1 z)] at h1 h2
  refine ⟨nl rfl, rfl, nl rfl, 0, 0, Nat.zero_le _, Nat.zero_le _, c_demand1 ?_⟩
  refine ⟨nl rfl, _, _, hM, rfl, ?_⟩
  refine ⟨Or.inr (Or.inr ⟨rfl, Or.inl rfl⟩), fun c3 => ?_, fun c3 => ?_⟩
  · have n4 : d.1 10 m ≠ 4 := fun z => c3 ((st_eq (hA.2.1 m hm) c0 (k := 3) (by decide)).mpr z)
    rw [if_neg n4] at h2
    refine ⟨trivial, _, hM, nl rfl, nl rfl, ?_⟩
    have r1 := hR.putS hm 0
    have hB := hA.1.st (m := m) (v := 1) c0 (by decide)
    refine h2 rfl _ ⟨_, _, cp, ls, r1, hA.mach (m := m) hB ?_ (fun m' hm' hne => ⟨?_, rfl, rfl, rfl, if_neg hne, rfl⟩) rfl rfl rfl rfl rfl, hc.eq rfl, hF.up⟩ (fc.rf.up (Or.inl (by simp)))
    · exact (hA.2.1 m hm).to c0 (k := 0) (by decide) (dset_at' _ _ _ _) rfl rfl (if_pos rfl) rfl
    · rw [dset_nj hne]
  · have e4 : d.1 10 m = 4 := (st_eq (hA.2.1 m hm) c0 (k := 3) (by decide)).mp (Classical.not_not.mp c3)
    rw [if_pos e4] at h1 h2
    obtain ⟨am, st, k0, st4, est, eam⟩ := hK.km hm c0
    have eam := eam e4
    obtain ⟨f1, f2, f3, f4, f5, -⟩ := ((hi.1 m hm).2.1 e4).1
    obtain ⟨l1, l2⟩ := len_inv hi hn hm
    obtain ⟨v, v1, v2, v3⟩ := amt_ex (hi.1 m hm).1.1 (by omega) f1
    have pos : 0 < am - 0 := by
      rw [z_sub0, eam, show amtOf (d.2 m) (Int32.ofNat m) (dlast d m) = Int32.ofNat v from v3]
      exact (z_lt (a := 0) (by decide) (by omega)).mpr (by omega)
    have ev : vrest d m (dlast d m) (am - 0) = drev d m (dlast d m) (amtOf (d.2 m) (Int32.ofNat m) (dlast d m)) := by
      unfold vrest
      rw [if_pos pos, z_sub0, eam]
    refine ⟨nl rfl, ⟨_, hM⟩, rfl, nl rfl, 6, 6935, nl rfl, nl rfl, c_voidRest (m := m) k0 hm (by omega) h5 l2 hro.2.2.2.2.2 (fun z => ?_) (fun z S1 k1 g1 => ?_)⟩
    · rw [ev] at z ⊢
      have ed : dlate d m = drev d m (dlast d m) (amtOf (d.2 m) (Int32.ofNat m) (dlast d m)) := dthen_t z
      rw [ed, if_pos z] at h1
      exact h1 rfl
    · rw [ev] at z k1
      have ed : dlate d m = (dset (drev d m (dlast d m) (amtOf (d.2 m) (Int32.ofNat m) (dlast d m))).1 10 m 1, false) := dthen_f z
      rw [ed] at h2
      have zf : dfailsb d m = false := by
        rcases bcase (dfailsb d m) with y | y
        · have : drev d m (dlast d m) (amtOf (d.2 m) (Int32.ofNat m) (dlast d m)) = drecB d m (4, Int32.ofNat m, dlast d m, 0, amtOf (d.2 m) (Int32.ofNat m) (dlast d m), 0) := dthen_t y
          rw [this] at z
          rw [show dfailsb d m = false from z] at y
          cases y
        · exact y
      have edr : drev d m (dlast d m) (amtOf (d.2 m) (Int32.ofNat m) (dlast d m)) = (dsent (drec d m (4, Int32.ofNat m, dlast d m, 0, amtOf (d.2 m) (Int32.ofNat m) (dlast d m), 0)) (420, Int32.ofNat m, dlast d m, 0, amtOf (d.2 m) (Int32.ofNat m) (dlast d m), 0), false) := dthen_f zf
      rw [edr] at k1 h2
      refine ⟨trivial, _, k1.obj hm, nl rfl, nl rfl, ?_⟩
      have e2 : (dsent (drec d m (4, Int32.ofNat m, dlast d m, 0, amtOf (d.2 m) (Int32.ofNat m) (dlast d m), 0)) (420, Int32.ofNat m, dlast d m, 0, amtOf (d.2 m) (Int32.ofNat m) (dlast d m), 0)).2 m = d.2 m ++ [(4, Int32.ofNat m, dlast d m, 0, amtOf (d.2 m) (Int32.ofNat m) (dlast d m), 0)] := by
        rw [dsent_ne (by omega)]
        exact drec_ok d m _ zf
      have e10 : (dsent (drec d m (4, Int32.ofNat m, dlast d m, 0, amtOf (d.2 m) (Int32.ofNat m) (dlast d m), 0)) (420, Int32.ofNat m, dlast d m, 0, amtOf (d.2 m) (Int32.ofNat m) (dlast d m), 0)).1 10 m ≠ 0 := by
        rw [dsent_1, drec_10, if_neg (fun y => by rw [zf] at y; cases y.1)]
        exact c0
      have k2 := k1.toSt hm e10 (k := 0) (by decide) rfl rfl
      refine h2 rfl _ (k2.ks fun _ => ⟨dset_at' _ _ _ _, ?_, ?_, fun y => ?_⟩) (g1.tr (fc.rf.up (Or.inl (by simp))))
      · show _ = Int32.ofNat (asks ((dset _ _ _ _).2 m))
        rw [dset_2, e2, asks_snoc]
        rfl
      · rw [dset_2, e2]
        unfold vmore
        rw [if_pos pos, z_sub0, eam]
        exact (voids_4 rfl f5).symm
      · rw [dset_at'] at y
        cases y
theorem c_cancel {m : Int32} {n : Nat} (hK : KS d S) (hro : ro S) (hi : Inv n d) (hn : n ≤ 512) (h5 : (d.2 5).length ≤ 3000) (hb : ¬ (0 ≤ m ∧ m ≤ 3) → kT d S 11 P)
    (ho : ∀ M, M < 4 → m = Int32.ofNat M → ((dcancel d M).2 = 2 → kT (dcancel d M).1 S 12 P) ∧ ((dcancel d M).2 = 3 → kT (dcancel d M).1 S 14 P) ∧ ((dcancel d M).2 = 0 → kN (dcancel d M).1 S (fun S' => P (.inl none) S'))) : Y_C_cancel 8 7000 [xv_r 0 0, xv_i m] S P := by
  obtain ⟨q, s, cp, ls, hR, hA, hc, hF⟩ := id hK
  refine x_go.run mn_C_cancel 10 ?_
  refine ⟨nl rfl, ⟨_, hR.1⟩, rfl, nl rfl, 1, 6, nl rfl, nl rfl, c_machineAt hR hF (fun h nx hn => (hb h).use hK hn) fun M hM e => ?_⟩
  obtain ⟨o1, o2, o3⟩ := ho M hM e
  exact ⟨nl rfl, ⟨_, hR.2.2.2.1 M hM⟩, rfl, nl rfl, 7, 6941, nl rfl, nl rfl, c_giveUp hK hro hM hi hn h5 o1 o2 o3⟩
end CM
