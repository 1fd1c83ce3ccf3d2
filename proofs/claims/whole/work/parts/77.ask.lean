section CN
variable {S : XH} {P : XP} {d : DS} {m st : Nat} {tr am : Int32} {vs : List R6}
theorem dset_sent (d : DS) (e : R6) (n j : Nat) (v : Int32) : dset (dsent d e) n j v = dsent (dset d n j v) e := by
  unfold dsent
  rw [dset_2]
  split <;> rfl
theorem KM.putT (h : KM d m tr am vs st S) (hm : m < 4) (v : Int32) {acc wp : Int32} (ea : acc = d.1 11 m) (ew : wp = d.1 12 m) : KM d m v am vs st (x_up S 3 m (.inl (3, (oMk m st acc wp tr am).set 8 (xv_i v)))) := by
  obtain ⟨q, s, cp, ls, hR, hX, hc, hF, e3, e4, e6, es⟩ := h
  obtain ⟨b1, b2, -⟩ := hX.1.2.1 m hm
  have r := hR.putM hm (t := 3) ⟨by decide, by decide⟩ v
  have eo : oM q s m = oMk m st acc wp tr am := by
    unfold oM oMk
    rw [b1, b2, e3, e4, es, ea, ew]
  rw [eo] at r
  exact ⟨_, s, cp, ls, r, ⟨hX.1.own (fun t a b c d => gs_ne b) (fun _ _ => rfl), fun m' hm' hne => (hX.2.1 m' hm' hne).keep rfl rfl (by rw [gs_self, upd_ne hne]) (by rw [gs_ne (by decide)]) rfl rfl, hX.2.2.1.keep rfl (by rw [gs_ne (by decide)]) (by rw [gs_ne (by decide)]), hX.2.2.2.1.keep rfl (by rw [gs_ne (by decide)]), hX.2.2.2.2⟩, hc, hF.up, gs_at, by rw [gs_ne (by decide)]; exact e4, e6, es⟩
theorem KM.putA (h : KM d m tr am vs st S) (hm : m < 4) (v : Int32) {acc wp : Int32} (ea : acc = d.1 11 m) (ew : wp = d.1 12 m) : KM d m tr v vs st (x_up S 3 m (.inl (3, (oMk m st acc wp tr am).set 9 (xv_i v)))) := by
  obtain ⟨q, s, cp, ls, hR, hX, hc, hF, e3, e4, e6, es⟩ := h
  obtain ⟨b1, b2, -⟩ := hX.1.2.1 m hm
  have r := hR.putM hm (t := 4) ⟨by decide, by decide⟩ v
  have eo : oM q s m = oMk m st acc wp tr am := by
    unfold oM oMk
    rw [b1, b2, e3, e4, es, ea, ew]
  rw [eo] at r
  exact ⟨_, s, cp, ls, r, ⟨hX.1.own (fun t a b c d => gs_ne c) (fun _ _ => rfl), fun m' hm' hne => (hX.2.1 m' hm' hne).keep rfl rfl (by rw [gs_ne (by decide)]) (by rw [gs_self, upd_ne hne]) rfl rfl, hX.2.2.1.keep rfl (by rw [gs_ne (by decide)]) (by rw [gs_ne (by decide)]), hX.2.2.2.1.keep rfl (by rw [gs_ne (by decide)]), hX.2.2.2.2⟩, hc, hF.up, by rw [gs_ne (by decide)]; exact e3, gs_at, e6, es⟩
set_option maxHeartbeats 4000000 in
theorem c_request {n v : Nat} (hK : KS d S) (hro : ro S) (hm : m < 4) (hi : Inv n d) (hn : n ≤ 512) (h5 : (d.2 5).length ≤ 3000) (hv5 : 5 ≤ v) (hv : v ≤ 1000)
    (h2 : (dask d m v).2.1 = 2 → kT (dask d m v).1 S 12 P) (h3 : (dask d m v).2.1 = 3 → kT (dask d m v).1 S 13 P) (h4 : (dask d m v).2.1 = 4 → kT (dask d m v).1 S 14 P) (h0 : (dask d m v).2.1 = 0 → kN (dask d m v).1 S (fun S' => P (.inl (some (xv_i (dask d m v).2.2))) S')) : Y_M_request 6 6240 [xv_r 3 m, xv_i (Int32.ofNat v)] S P := by
  obtain ⟨q, s, cp, ls, hR, hA, hc, hF⟩ := id hK
  unfold dask at h0 h2 h3 h4
  have bad : ¬ d.1 10 m = 3 → x_go b_M_request P 24 [some (xv_r 3 m), some (xv_i (Int32.ofNat v)), none] [] S 6 6240 := fun h => by
    rw [if_neg h] at h2
    refine x_go.run mn_M_request 3 ?_
    exact ⟨nl rfl, rfl, nl rfl, 1, 6, nl rfl, nl rfl, c_demand0 hF (nl rfl) (nl rfl) fun nx hn => (h2 rfl).use hK hn⟩
  have hM := hR.2.2.2.1 m hm
  refine x_go.run mn_M_request 17 ?_
  refine ⟨nl rfl, _, _, hM, rfl, ?_⟩
  refine ⟨nl rfl, ⟨_, hR.2.2.2.2.1 m (by omega)⟩, rfl, nl rfl, 0, 0, Nat.zero_le _, Nat.zero_le _, c_ison hR (by omega) (by rw [hA.on hm]; exact on01) ?_⟩
  rw [hA.on hm]
  refine ⟨fun c => x_go.back mn_M_request (bad fun z => ?_), fun c => ?_⟩
  · have c := on_iff.mp c
    rw [c] at z
    cases z
  have c0 : d.1 10 m ≠ 0 := fun z => c (on_iff.mpr z)
  refine ⟨nl rfl, _, _, hM, rfl, ?_⟩
  refine ⟨Or.inr (Or.inr ⟨rfl, Or.inl rfl⟩), fun c2 => x_go.back mn_M_request (bad fun z => c2 ((st_eq (hA.2.1 m hm) c0 (k := 2) (by decide)).mpr z)), fun c2 => ?_⟩
  have e1 : d.1 10 m = 3 := (st_eq (hA.2.1 m hm) c0 (k := 2) (by decide)).mp (Classical.not_not.mp c2)
  rw [if_pos e1] at h0 h3 h4
  refine ⟨nl rfl, rfl, nl rfl, 0, 0, Nat.zero_le _, Nat.zero_le _, c_demand1 ?_⟩
  refine ⟨nl rfl, _, _, hM, rfl, ?_⟩
  have nt := (hi.1 m hm).1.2.2.1
  refine ⟨nl rfl, ⟨_, hR.2.2.2.2.2.1 m hm⟩, rfl, nl rfl, 0, 0, Nat.zero_le _, Nat.zero_le _, c_mixOf hR hA.1 hm nt hv ?_⟩
  obtain ⟨l1, l2⟩ := len_inv hi hn hm
  obtain ⟨am, st, k0, st4, est, -⟩ := hK.km hm c0
  have thr : ¬ (dmix d m v ≠ none ∧ (d.2 m).length + 5 + (voidsOf (d.2 m) (Int32.ofNat m)).length ≤ 1200) → ∀ j2 : Option XV, x_go b_M_request P 69 [some (xv_r 3 m), some (xv_i (Int32.ofNat v)), j2] [] S 6 6240 := by
    intro h j2
    rw [if_neg h] at h3
    obtain ⟨nx, -, -, hnx⟩ := hF.fr
    refine x_go.run mn_M_request 1 ?_
    exact ⟨nl rfl, nl rfl, nl rfl, 12, nx, nl rfl, hnx, (h3 rfl).use hK hnx⟩
  have go : ∀ f : Int32, (f = 0 → dmix d m v = none) → (f = 1 → dmix d m v ≠ none) → (f = 0 ∨ f = 1) → x_go b_M_request P 45 [some (xv_r 3 m), some (xv_i (Int32.ofNat v)), none] [xv_i f] S 6 6240 := by
    intro f k0' k1' kf
    refine x_go.run mn_M_request 12 ?_
    refine ⟨fun z => x_go.back mn_M_request (thr (fun y => y.1 (k0' z)) _), fun z => ?_⟩
    have hmx := k1' (kf.resolve_left z)
    obtain ⟨fv, hvo⟩ := k0.vobj hm
    obtain ⟨fj, hjo⟩ := k0.jobj hm
    refine ⟨nl rfl, _, _, (k0.obj hm), rfl, ?_⟩
    refine ⟨nl rfl, _, _, (k0.obj hm), rfl, ?_⟩
    have hL := hR.2.2.2.2.2.2.2.2 (6 + m) (by omega)
    have ev : ls (6 + m) = voidsOf (d.2 m) (Int32.ofNat m) := ((hA.2.1 m hm).2 c0).2.2.1
    rw [ev] at hL
    refine ⟨nl rfl, ⟨_, hvo⟩, rfl, nl rfl, 0, 0, Nat.zero_le _, Nat.zero_le _, c_size hL ?_⟩
    have e5 : (5 : Int32) + Int32.ofNat (voidsOf (d.2 m) (Int32.ofNat m)).length = Int32.ofNat (5 + (voidsOf (d.2 m) (Int32.ofNat m)).length) := z_add 5 _
    refine ⟨nl rfl, ⟨_, hjo⟩, rfl, nl rfl, 0, 0, Nat.zero_le _, Nat.zero_le _, ?_⟩
    show Y_J_hasRoomFor 0 0 [xv_r 4 m, xv_i ((5 : Int32) + Int32.ofNat (voidsOf (d.2 m) (Int32.ofNat m)).length)] S _
    rw [e5]
    have els : ls m = d.2 m := hA.1.1 m (by omega)
    refine c_room hR (by omega) (by omega) (fun y => ?_) (fun y => ?_)
    · rw [els, if_neg (by omega)] at y
      refine ⟨fun _ => ?_, fun c => (c (by decide)).elim⟩
      rw [if_pos ⟨hmx, by omega⟩] at h0 h4
      obtain ⟨n', -, hn', -⟩ := hF.fr
      have k1 := k0.new hn' (.inl (6, xD6))
      refine x_go.back mn_M_request (x_go.run mn_M_request 60 ?_)
      refine ⟨nl rfl, _, _, (k0.obj hm), rfl, ?_⟩
      refine ⟨nl rfl, nl rfl, 11, n', nl rfl, hn', ?_⟩
      refine ⟨nl rfl, _, _, (k1.obj hm), rfl, ?_⟩
      refine ⟨nl rfl, _, _, (k1.obj hm), rfl, ?_⟩
      refine ⟨nl rfl, _, _, (k1.obj hm), rfl, ?_⟩
      refine ⟨rfl, nl rfl, 0, 0, Nat.zero_le _, Nat.zero_le _, c_einit (1, Int32.ofNat m, dlast d m + 1, d.1 11 m, Int32.ofNat v, 0) (x_up_self _ _ _ _) ?_⟩
      rw [x_up_up]
      have k1 := k0.new hn' (.inl (6, eR (1, Int32.ofNat m, dlast d m + 1, d.1 11 m, Int32.ofNat v, 0)))
      have p1 : x_up S 11 n' (.inl (6, eR (1, Int32.ofNat m, dlast d m + 1, d.1 11 m, Int32.ofNat v, 0))) 11 n' = some (.inl (6, eR (1, Int32.ofNat m, dlast d m + 1, d.1 11 m, Int32.ofNat v, 0))) := x_up_self _ _ _ _
      have f1 : fc S (x_up S 11 n' (.inl (6, eR (1, Int32.ofNat m, dlast d m + 1, d.1 11 m, Int32.ofNat v, 0)))) := fc.rf.up (Or.inl (by decide))
      generalize x_up S 11 n' (.inl (6, eR (1, Int32.ofNat m, dlast d m + 1, d.1 11 m, Int32.ofNat v, 0))) = S1 at k1 p1 f1 ⊢
      have h54 : ∀ {S'}, fc S S' → rk S' := fun {S'} z => (hro.fc z).2.2.2.2.2
      obtain ⟨fj1, hj1⟩ := k1.jobj hm
      refine ⟨nl rfl, ⟨_, hj1⟩, rfl, nl rfl, 2, 1656, nl rfl, nl rfl, c_wr (m := m) k1 hm p1 (by omega) (h54 f1) (Nat.le_refl _) (Nat.le_refl _) (fun hf => ?_) (fun hf S2 k2 f2 _ g2 => ?_)⟩
      · rw [if_pos hf] at h4
        exact (h4 rfl).tr f1
      · rw [if_neg (by rw [hf]; decide)] at h0
        have h0 := h0 rfl
        have e11 : (drec d m (1, Int32.ofNat m, dlast d m + 1, d.1 11 m, Int32.ofNat v, 0)).1 11 = d.1 11 := drec_1 (by decide)
        have e12 : (drec d m (1, Int32.ofNat m, dlast d m + 1, d.1 11 m, Int32.ofNat v, 0)).1 12 = d.1 12 := drec_1 (by decide)
        have e10 : (drec d m (1, Int32.ofNat m, dlast d m + 1, d.1 11 m, Int32.ofNat v, 0)).1 10 m ≠ 0 := by
          rw [drec_10, if_neg (fun y => by rw [hf] at y; cases y.1)]
          exact c0
        have ed := drec_ok d m (1, Int32.ofNat m, dlast d m + 1, d.1 11 m, Int32.ofNat v, 0) hf
        have e5' : (drec d m (1, Int32.ofNat m, dlast d m + 1, d.1 11 m, Int32.ofNat v, 0)).2 5 = d.2 5 := drec_ne (by omega)
        generalize hD : drec d m (1, Int32.ofNat m, dlast d m + 1, d.1 11 m, Int32.ofNat v, 0) = D at k2 e11 e12 e10 ed e5' h0
        have o2 := k2.obj hm
        rw [e11, e12] at o2
        refine ⟨nl rfl, _, _, o2, rfl, ?_⟩
        refine ⟨trivial, _, o2, nl rfl, nl rfl, ?_⟩
        have k3 := k2.putT hm (dlast d m + 1) (acc := d.1 11 m) (wp := d.1 12 m) (by rw [e11]) (by rw [e12])
        have o3 := k3.obj hm
        rw [e11, e12] at o3
        refine ⟨trivial, _, o3, nl rfl, nl rfl, ?_⟩
        have k4 := k3.putA hm (Int32.ofNat v) (acc := d.1 11 m) (wp := d.1 12 m) (by rw [e11]) (by rw [e12])
        have o4 := k4.obj hm
        rw [e11, e12] at o4
        obtain ⟨fn, hnet⟩ := k4.net
        have f4 : fc S _ := f1.tr (f2.tr ((fc.rf.up (S' := S2) (k := 3) (i := m) (c := .inl (3, (oMk m st (d.1 11 m) (d.1 12 m) (dlast d m) am).set 8 (xv_i (dlast d m + 1)))) (Or.inl (by decide))).up (k := 3) (i := m) (c := .inl (3, (oMk m st (d.1 11 m) (d.1 12 m) (dlast d m + 1) am).set 9 (xv_i (Int32.ofNat v)))) (Or.inl (by decide))))
        refine ⟨nl rfl, _, _, o4, rfl, ?_⟩
        refine ⟨nl rfl, _, _, o4, rfl, ?_⟩
        refine ⟨nl rfl, _, _, o4, rfl, ?_⟩
        refine ⟨nl rfl, _, _, o4, rfl, ?_⟩
        refine ⟨nl rfl, _, _, o4, rfl, ?_⟩
        refine ⟨nl rfl, ⟨_, hnet⟩, rfl, nl rfl, 2, 4505, nl rfl, nl rfl, c_sd (200, Int32.ofNat m, dlast d m + 1, d.1 11 m, Int32.ofNat v, 0) k4 hm (by show ¬ (200 : Int32) = 510; decide) (by rw [e5']; exact h5) (h54 f4) (fun z => (nS_step z).2) (fun z => (nS_step z).1) fun S5 k5 f5 _ => ?_⟩
        have e11s : (dsent D (200, Int32.ofNat m, dlast d m + 1, d.1 11 m, Int32.ofNat v, 0)).1 11 = d.1 11 := by
          rw [dsent_1]
          exact e11
        have e12s : (dsent D (200, Int32.ofNat m, dlast d m + 1, d.1 11 m, Int32.ofNat v, 0)).1 12 = d.1 12 := by
          rw [dsent_1]
          exact e12
        have o5 := k5.obj hm
        rw [e11s, e12s] at o5
        refine ⟨trivial, _, o5, nl rfl, nl rfl, ?_⟩
        have k6 := k5.toSt hm (by rw [dsent_1]; exact e10) (k := 3) (by decide) (acc := d.1 11 m) (wp := d.1 12 m) (by rw [e11s]) (by rw [e12s])
        rw [dset_sent] at k6
        have e2m : (dsent (dset D 10 m (Int32.ofNat (3 + 1))) (200, Int32.ofNat m, dlast d m + 1, d.1 11 m, Int32.ofNat v, 0)).2 m = d.2 m ++ [(1, Int32.ofNat m, dlast d m + 1, d.1 11 m, Int32.ofNat v, 0)] := by
          rw [dsent_ne (by omega), dset_2]
          exact ed
        have ea : asks (d.2 m ++ [(1, Int32.ofNat m, dlast d m + 1, d.1 11 m, Int32.ofNat v, 0)]) = asks (d.2 m) + 1 := by
          rw [asks_snoc, if_pos rfl]
        obtain ⟨ac, hac, hac'⟩ := (hi.1 m hm).1.2.2.2.2.2.2
        have ks := k6.ks fun _ => ⟨by rw [dsent_1, dset_at'], by
            show _ = Int32.ofNat (asks ((dsent (dset D 10 m (Int32.ofNat (3 + 1))) (200, Int32.ofNat m, dlast d m + 1, d.1 11 m, Int32.ofNat v, 0)).2 m))
            rw [e2m, ea, ← z_suc], by
            rw [e2m]
            exact (voids_x (show ¬ (1 : Int32) = 4 by decide) (show ¬ (1 : Int32) = 5 by decide)).symm, fun _ => by
            show _ = amtOf ((dsent (dset D 10 m (Int32.ofNat (3 + 1))) (200, Int32.ofNat m, dlast d m + 1, d.1 11 m, Int32.ofNat v, 0)).2 m) _ (Int32.ofNat (asks ((dsent (dset D 10 m (Int32.ofNat (3 + 1))) (200, Int32.ofNat m, dlast d m + 1, d.1 11 m, Int32.ofNat v, 0)).2 m)))
            rw [e2m]
            unfold amtOf
            rw [amt_snoc1 (hi.1 m hm).1.1 ⟨rfl, Or.inl ⟨rfl, z_suc _, ⟨v, hv5, hv, rfl⟩, ac, hac, hac'⟩⟩ (by omega) rfl]
            rfl⟩
        have o6 := k6.obj hm
        refine ⟨nl rfl, _, _, o6, rfl, ?_⟩
        exact h0 _ ks (f4.tr (f5.tr (fc.rf.up (Or.inl (by simp)))))
    · rw [els, if_neg (by omega)] at y
      exact ⟨fun c => (c rfl).elim, fun _ => thr (fun w => y (by omega)) _⟩
  unfold mixI
  cases e : dmix d m v with
  | none => exact ⟨fun _ => x_go.back mn_M_request (x_go.run mn_M_request 1 (go 0 (fun _ => e) (fun z => by cases z) (Or.inl rfl))), fun z => (z rfl).elim⟩
  | some x => exact ⟨fun z => (pk_pos (mix_40 e) z).elim, fun _ => x_go.back mn_M_request (x_go.run mn_M_request 2 (go 1 (fun z => by cases z) (fun _ => by rw [e]; simp) (Or.inr rfl)))⟩
theorem c_ask {n : Nat} {m v : Int32} (hK : KS d S) (hro : ro S) (hi : Inv n d) (hn : n ≤ 512) (h5 : (d.2 5).length ≤ 3000) (hb : ¬ (0 ≤ m ∧ m ≤ 3 ∧ 5 ≤ v ∧ v ≤ 1000) → kT d S 11 P)
    (ho : ∀ M V, M < 4 → 5 ≤ V → V ≤ 1000 → m = Int32.ofNat M → v = Int32.ofNat V → ((dask d M V).2.1 = 2 → kT (dask d M V).1 S 12 P) ∧ ((dask d M V).2.1 = 3 → kT (dask d M V).1 S 13 P) ∧ ((dask d M V).2.1 = 4 → kT (dask d M V).1 S 14 P) ∧ ((dask d M V).2.1 = 0 → kN (dask d M V).1 S (fun S' => P (.inl (some (xv_i (dask d M V).2.2))) S'))) : Y_C_ask 8 7000 [xv_r 0 0, xv_i m, xv_i v] S P := by
  obtain ⟨q, s, cp, ls, hR, hA, hc, hF⟩ := id hK
  refine x_go.run mn_C_ask 20 ?_
  refine ⟨nl rfl, ⟨_, hR.1⟩, rfl, nl rfl, 1, 6, nl rfl, nl rfl, c_machineAt hR hF (fun h nx hn => (hb fun z => h ⟨z.1, z.2.1⟩).use hK hn) fun M hM e => ?_⟩
  subst e
  have bad : ¬ (5 ≤ v ∧ v ≤ 1000) → x_go b_C_ask P 22 [some (xv_r 0 0), some (xv_i (Int32.ofNat M)), some (xv_i v), some (xv_r 3 M)] [] S 7 6994 := fun h => by
    refine x_go.run mn_C_ask 3 ?_
    exact ⟨nl rfl, rfl, nl rfl, 1, 6, nl rfl, nl rfl, c_allow0 hF (nl rfl) (nl rfl) fun nx hn => (hb fun z => h z.2.2).use hK hn⟩
  refine ⟨fun c => x_go.back mn_C_ask (bad fun z => Int32.not_lt.mpr z.1 c), fun c1 => ⟨fun c' => x_go.back mn_C_ask (bad fun z => Int32.not_lt.mpr z.2 c'), fun c' => ?_⟩⟩
  have c1 : 5 ≤ v := Int32.not_lt.mp c1
  obtain ⟨V, hV, rfl⟩ := in_nat 1000 (by decide) (Int32.le_trans (by decide) c1) (Int32.not_lt.mp c')
  have hV5 : 5 ≤ V := (z_le (a := 5) (by decide) (by omega)).mp c1
  obtain ⟨o1, o2, o3, o4⟩ := ho M V hM hV5 hV rfl rfl
  refine ⟨nl rfl, rfl, nl rfl, 0, 0, Nat.zero_le _, Nat.zero_le _, c_allow1 ?_⟩
  exact ⟨nl rfl, ⟨_, hR.2.2.2.1 M hM⟩, rfl, nl rfl, 6, 6240, nl rfl, nl rfl, c_request hK hro hM hi hn h5 hV5 hV o1 o2 o3 o4⟩
end CN
