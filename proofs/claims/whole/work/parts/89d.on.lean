section DC
variable {S : XH} {P : XP} {d : DS} {m : Nat} {e : R6} {p : Nat}
theorem take_void {n : Nat} (hi : Inv n d) (hn : n ≤ 512) (hm : m < 4) (i : Nat) : (voidsOf ((d.2 m).take i) (Int32.ofNat m)).length ≤ 512 := by
  have hj := (hi.1 m hm).1.1
  have hl := (hi.1 m hm).1.2.1
  have hp : Jok m ((d.2 m).take i) := by
    intro j hj'
    have h1 : j < i ∧ j < (d.2 m).length := by
      rw [List.length_take] at hj'
      omega
    have := hj j h1.2
    rw [List.getElem_take, List.take_take, Nat.min_eq_left (by omega)]
    exact this
  have h2 := voids_c4 ((d.2 m).take i) (Int32.ofNat m)
  have h3 := (Jok.void hp (by rw [List.length_take]; omega)).1
  have h4 : asks ((d.2 m).take i) ≤ asks (d.2 m) := by
    unfold asks
    exact (List.Sublist.filter _ (List.take_sublist i (d.2 m))).length_le
  have h5 := (hi.1 m hm).2.2
  omega
theorem c_mturnOn {n : Nat} (hK : KS d S) (hro : ro S) (hm : m < 4) (hi : Inv n d) (hn : n ≤ 512) (h5 : (d.2 5).length ≤ 3000)
    (h1 : (dwakes d m).2 = true → kT (dwakes d m).1 S 14 P) (h0 : (dwakes d m).2 = false → kN (dwakes d m).1 S (fun S' => P (.inl (some (xv_i (Int32.ofNat (d.2 m).length)))) S')) : Y_M_turnOn 809 11797 [xv_r 3 m] S P := by
  obtain ⟨q, s, cp, ls, hR, hA, hc, hF⟩ := id hK
  obtain ⟨tr, am, vs, st, k0, hst⟩ := hK.kmx hm
  obtain ⟨l1, l2⟩ := len_inv hi hn hm
  have hls : ls m = d.2 m := hA.1.1 m (by omega)
  rw [dwakes_fin] at h0 h1
  refine x_go.run mn_M_turnOn 20 ?_
  refine ⟨nl rfl, _, _, (k0.obj hm), rfl, ?_⟩
  refine ⟨nl rfl, ⟨_, hR.2.2.2.2.1 m (by omega)⟩, rfl, nl rfl, 0, 0, Nat.zero_le _, Nat.zero_le _, c_jsize hR (by omega) ?_⟩
  rw [hls]
  refine ⟨nl rfl, _, _, (k0.obj hm), rfl, ?_⟩
  refine ⟨nl rfl, ⟨_, hR.2.2.2.2.1 m (by omega)⟩, rfl, nl rfl, 0, 0, Nat.zero_le _, Nat.zero_le _, c_mon (m := m) k0 hm fun S1 k1 g1 => ?_⟩
  refine ⟨trivial, _, k1.obj hm, nl rfl, nl rfl, ?_⟩
  have k2 := k1.toSt hm (by rw [dset_at']; decide) (k := 0) (by decide) rfl rfl
  rw [dset_dset] at k2
  have g2 : fc S _ := g1.tr (fc.rf.up (S' := S1) (k := 3) (i := m) (c := .inl (3, (oMk m st ((dset d 10 m 1).1 11 m) ((dset d 10 m 1).1 12 m) tr am).set 5 (xv_r 49 0))) (Or.inl (by decide)))
  have k2 : KM (dset d 10 m 1) m tr am vs 0 (x_up S1 3 m (.inl (3, (oMk m st ((dset d 10 m 1).1 11 m) ((dset d 10 m 1).1 12 m) tr am).set 5 (xv_r 49 0)))) := k2
  refine ⟨nl rfl, ⟨_, k2.obj hm⟩, rfl, nl rfl, 800, 3200, nl rfl, nl rfl, c_recall (m := m) k2 (hro.fc g2) hm (hi.1 m hm).1.1 l1 (fun i => take_void (d := d) hi hn hm i) fun S3 am3 k3 e3 g3 => ?_⟩
  refine ⟨nl rfl, ⟨_, k3.obj hm⟩, rfl, nl rfl, 9, 8597, nl rfl, nl rfl, c_finish (n := n) (m := m) k3 (hro.fc (g2.tr g3)) hm (hi.1 m hm).1.1 l1 l2 h5 e3 (fun z => (h1 z).tr (g2.tr g3)) (fun z S4 k4 a4 b4 g4 => ?_)⟩
  refine h0 z S4 (k4.ks fun _ => ⟨?_, ?_, rfl, fun y => ?_⟩) (g2.tr (g3.tr g4))
  · rw [b4, dset_at']
    rfl
  · show _ = Int32.ofNat (asks ((dfin (dset d 10 m 1) m).1.2 m))
    rw [a4]
  · rw [b4, dset_at'] at y
    cases y
theorem CB.bon {q : Nat → Nat → Int32} {ls : Nat → List R6} (h : CB d q ls) : CB (dset d 9 0 1) (gs q 5 (upd (q 5) 4 1)) ls := by
  obtain ⟨h1, h2, h3, h4, h5⟩ := h
  have e1 : ∀ k, k ≠ 9 → (dset d 9 0 1).1 k = d.1 k := fun k hk => dset_nt hk
  have e2 : ∀ k, k ≠ 5 → gs q 5 (upd (q 5) 4 1) k = q k := fun k hk => gs_ne hk
  refine ⟨h1, fun m' hm' => ?_, ?_, fun w hw => ?_, fun a ha => ?_⟩
  · obtain ⟨a1, a2, a3, a4, a5, a6, a7, a8⟩ := h2 m' hm'
    rw [e2 1 (by omega), e2 2 (by omega), e2 8 (by omega), e2 9 (by omega), e2 10 (by omega), e2 11 (by omega), e2 (20 + m') (by omega), e1 11 (by decide), e1 12 (by decide), e1 17 (by decide), e1 14 (by decide), e1 15 (by decide), e1 16 (by decide), e1 13 (by decide), e1 10 (by decide), gs_self, upd_ne (by omega)]
    exact ⟨a1, a2, a3, a4, a5, a6, a7, a8⟩
  · rw [gs_self, upd_self, dset_at', if_neg (by decide)]
  · rw [e2 7 (by omega), e2 6 (by omega), e1 8 (by decide), e1 7 (by decide)]
    exact h4 w hw
  · rw [e2 12 (by omega), e1 18 (by decide)]
    exact h5 a ha
theorem c_bturnOn (hK : KS d S) (h : kN (dset d 9 0 1) S (fun S' => P (.inl (some (xv_i (Int32.ofNat (d.2 4).length)))) S')) : Y_B_turnOn 0 0 [xv_r 2 0] S P := by
  obtain ⟨q, s, cp, ls, hR, hA, hc, hF⟩ := id hK
  have r := hR.putJ (m := 4) (by decide) (t := 5) ⟨by decide, by decide⟩ 1
  have hls : ls 4 = d.2 4 := hA.1.1 4 (by decide)
  refine x_go.run mn_B_turnOn 10 ?_
  refine ⟨nl rfl, _, _, hR.2.2.1, rfl, ?_⟩
  refine ⟨nl rfl, ⟨_, hR.2.2.2.2.1 4 (by decide)⟩, rfl, nl rfl, 0, 0, Nat.zero_le _, Nat.zero_le _, ?_⟩
  refine x_go.run mn_J_turnOn 5 ?_
  refine ⟨Or.inr rfl, _, hR.2.2.2.2.1 4 (by decide), nl rfl, nl rfl, ?_⟩
  refine ⟨nl rfl, _, _, r.2.2.1, rfl, ?_⟩
  refine ⟨nl rfl, ⟨_, r.2.2.2.2.1 4 (by decide)⟩, rfl, nl rfl, 0, 0, Nat.zero_le _, Nat.zero_le _, c_jsize r (by decide) ?_⟩
  rw [hls]
  have hk := h _ ⟨_, s, cp, ls, r, ⟨hA.1.bon, fun m' hm' => (hA.2.1 m' hm').keep (by rw [dset_nt (by decide)]) rfl (by rw [gs_ne (by decide)]) (by rw [gs_ne (by decide)]) rfl rfl, hA.2.2.1.keep rfl (by rw [gs_ne (by decide)]) (by rw [gs_ne (by decide)]), hA.2.2.2.keep rfl (by rw [gs_ne (by decide)])⟩, hc.eq rfl, hF.up⟩ (fc.rf.up (Or.inl (by simp)))
  exact hk
theorem c_on {n : Nat} {w : Int32} (hK : KS d S) (hro : ro S) (hi : Inv n d) (hn : n ≤ 512) (h5 : (d.2 5).length ≤ 3000) (hb : ¬ (0 ≤ w ∧ w ≤ 4) → kT d S 11 P)
    (ho : ∀ M, M < 5 → w = Int32.ofNat M → ((don d M).2.1 = 2 → kT (don d M).1 S 14 P) ∧ ((don d M).2.1 = 0 → kN (don d M).1 S (fun S' => P (.inl (some (xv_i (don d M).2.2))) S'))) : Y_C_on 810 11803 [xv_r 0 0, xv_i w] S P := by
  obtain ⟨q, s, cp, ls, hR, hA, hc, hF⟩ := id hK
  refine x_go.run mn_C_on 20 ?_
  refine ⟨fun c => ?_, fun c => ?_⟩
  · refine ⟨nl rfl, ⟨_, hR.1⟩, rfl, nl rfl, 1, 6, nl rfl, nl rfl, c_machineAt hR hF (fun h nx hn => (hb fun z => h ⟨z.1, ?_⟩).use hK hn) fun M hM e => ?_⟩
    · obtain ⟨M, hM, rfl⟩ := in_nat 4 (by decide) z.1 z.2
      have : M ≠ 4 := fun y => c (by rw [y]; rfl)
      exact (z_le (b := 3) (by omega) (by decide)).mpr (by omega)
    · obtain ⟨o1, o2⟩ := ho M (by omega) e
      unfold don at o1 o2
      rw [if_neg (by omega)] at o1 o2
      refine ⟨nl rfl, ⟨_, hR.2.2.2.1 M hM⟩, rfl, nl rfl, 809, 11797, nl rfl, nl rfl, c_mturnOn (m := M) hK hro hM hi hn h5 (fun z => ?_) (fun z => ?_)⟩
      · dsimp only at o1
        rw [if_pos z] at o1
        exact o1 rfl
      · dsimp only at o2
        rw [if_neg (by rw [z]; decide), if_neg (by rw [z]; decide)] at o2
        exact o2 rfl
  · obtain ⟨o1, o2⟩ := ho 4 (by decide) (Classical.not_not.mp c)
    unfold don at o2
    rw [if_pos rfl] at o2
    refine ⟨nl rfl, _, _, hR.1, rfl, ?_⟩
    exact ⟨nl rfl, ⟨_, hR.2.2.1⟩, rfl, nl rfl, 0, 0, Nat.zero_le _, Nat.zero_le _, c_bturnOn hK (o2 rfl)⟩
/-- the MESSAGE of a number -/
theorem c_messageAt {k : Int32} (hK : KS d S) (hb : ¬ (0 ≤ k ∧ k < Int32.ofNat (d.2 5).length) → kT d S 15 P) (ho : ∀ K p (hK : K < (d.2 5).length), k = Int32.ofNat K → S 10 p = some (.inl (7, gR (d.2 5)[K])) → P (.inl (some (xv_r 10 p))) S) : Y_C_messageAt 1 6 [xv_r 0 0, xv_i k] S P := by
  obtain ⟨q, s, cp, ls, hR, hA, hc, hF⟩ := id hK
  have hls : ls 5 = d.2 5 := hA.1.1 5 (by decide)
  have hlen := (hR.2.2.2.2.2.2.2.2 5 (by decide)).len
  rw [hls] at hlen
  have bad : ¬ (0 ≤ k ∧ k < Int32.ofNat (d.2 5).length) → x_go b_C_messageAt P 15 [some (xv_r 0 0), some (xv_i k)] [] S 1 6 := fun h => by
    obtain ⟨nx, -, -, hnx⟩ := hF.fr
    refine x_go.run mn_C_messageAt 1 ?_
    exact ⟨nl rfl, nl rfl, nl rfl, 12, nx, nl rfl, hnx, (hb h).use hK hnx⟩
  refine x_go.run mn_C_messageAt 20 ?_
  refine ⟨fun c => x_go.back mn_C_messageAt (bad fun z => Int32.not_lt.mpr z.1 c), fun c => ?_⟩
  refine ⟨nl rfl, _, _, hR.1, rfl, ?_⟩
  refine ⟨nl rfl, ⟨_, hR.2.1⟩, rfl, nl rfl, 0, 0, Nat.zero_le _, Nat.zero_le _, c_nsize hR ?_⟩
  rw [hls]
  refine ⟨fun c2 => ?_, fun c2 => x_go.back mn_C_messageAt (bad fun z => c2 z.2)⟩
  have c1 : 0 ≤ k := Int32.not_lt.mp c
  obtain ⟨K, hK1, rfl⟩ := z_of c1
  have hK2 : K < (d.2 5).length := (z_lt hK1 (by omega)).mp c2
  refine ⟨nl rfl, _, _, hR.1, rfl, ?_⟩
  refine ⟨nl rfl, ⟨_, hR.2.1⟩, rfl, nl rfl, 0, 0, Nat.zero_le _, Nat.zero_le _, c_nsent hR (by rw [hls]; exact hK2) fun p hp => ?_⟩
  have hp : S 10 p = some (.inl (7, gR (d.2 5)[K])) := by
    rw [hp]
    simp only [hls]
  exact ho K p hK2 rfl hp
theorem okM.mach {x : R6} (h : okM x) : (∃ M, M < 4 ∧ x.2.1 = Int32.ofNat M) ∧ (∃ a, a < 200 ∧ x.2.2.2.1 = Int32.ofNat a) ∧ ((x.1 = 200 ∨ x.1 = 420 ∨ x.1 = 500) ∨ (x.1 = 210 ∨ x.1 = 430 ∨ x.1 = 510)) := by
  obtain ⟨ty, M, t, a, v, r, e1, e2, e3, e4, e5, -⟩ := h
  refine ⟨⟨M, e3, by rw [e1]⟩, ⟨a, e5, by rw [e1]⟩, ?_⟩
  rw [e1]
  rcases e2 with rfl | rfl | rfl | rfl | rfl | rfl
  · exact Or.inl (Or.inl rfl)
  · exact Or.inr (Or.inl rfl)
  · exact Or.inl (Or.inr (Or.inl rfl))
  · exact Or.inr (Or.inr (Or.inl rfl))
  · exact Or.inl (Or.inr (Or.inr rfl))
  · exact Or.inr (Or.inr (Or.inr rfl))
theorem tb_1 {x : Int32} (h : x = 200 ∨ x = 420 ∨ x = 500) : tyN x < 6 ∧ st_tb (tyN x) = 1 := by
  rcases h with rfl | rfl | rfl <;> decide
theorem tb_0 {x : Int32} (h : x = 210 ∨ x = 430 ∨ x = 510) : tyN x < 6 ∧ st_tb (tyN x) = 0 := by
  rcases h with rfl | rfl | rfl <;> decide
set_option maxHeartbeats 4000000 in
theorem c_deliver {n : Nat} {k : Int32} (hK : KS d S) (hro : ro S) (hi : Inv n d) (hn : n ≤ 512) (h5 : (d.2 5).length ≤ 3000) (hb : ¬ (0 ≤ k ∧ k < Int32.ofNat (d.2 5).length) → kT d S 15 P)
    (ho : ∀ K M (hK : K < (d.2 5).length), M < 4 → (d.2 5)[K].2.1 = Int32.ofNat M → k = Int32.ofNat K → ((ddeliver d M (d.2 5)[K]).2.1 = 2 → kT (ddeliver d M (d.2 5)[K]).1 S 14 P) ∧ ((ddeliver d M (d.2 5)[K]).2.1 = 0 → kN (ddeliver d M (d.2 5)[K]).1 S (fun S' => P (.inl (some (xv_i (ddeliver d M (d.2 5)[K]).2.2))) S'))) : Y_C_deliver 13 10265 [xv_r 0 0, xv_i k] S P := by
  obtain ⟨q, s, cp, ls, hR, hA, hc, hF⟩ := id hK
  have hls : ls 5 = d.2 5 := hA.1.1 5 (by decide)
  have hl4 : (d.2 4).length ≤ 1100 := by
    have := hi.2.2.1
    omega
  refine x_go.run mn_C_deliver 40 ?_
  refine ⟨nl rfl, ⟨_, hR.1⟩, rfl, nl rfl, 1, 6, nl rfl, nl rfl, c_messageAt hK hb fun K p hK2 ek hp => ?_⟩
  obtain ⟨⟨M, hM, eM⟩, ⟨a, ha, ea⟩, hty⟩ := okM.mach (hi.2.2.2.1 _ (List.getElem_mem hK2))
  obtain ⟨o1, o2⟩ := ho K M hK2 hM eM ek
  generalize (d.2 5)[K] = x at *
  unfold ddeliver ddel at o1 o2
  dsimp only at o1 o2
  -- behind the receiver: how many more
  have tail : ∀ (D : DS) (S1 : XH) (u w : Nat) , KS D S1 → fc S S1 → (KS D S1 → fc S S1 → P (.inl (some (xv_i (Int32.ofNat (D.2 5).length - Int32.ofNat (d.2 5).length)))) S1) → x_go b_C_deliver P 48 [some (xv_r 0 0), some (xv_i k), some (xv_r 10 p), some (xv_i (Int32.ofNat (d.2 5).length))] [] S1 u w := by
    intro D S1 u w k1 g1 hk
    obtain ⟨q1, s1, cp1, ls1, hR1, hA1, -⟩ := id k1
    have hls1 : ls1 5 = D.2 5 := hA1.1.1 5 (by decide)
    refine x_go.run mn_C_deliver 8 ?_
    refine ⟨nl rfl, _, _, hR1.1, rfl, ?_⟩
    refine ⟨nl rfl, ⟨_, hR1.2.1⟩, rfl, nl rfl, 0, 0, Nat.zero_le _, Nat.zero_le _, c_nsize hR1 ?_⟩
    rw [hls1]
    exact hk k1 g1
  refine ⟨nl rfl, _, _, hR.1, rfl, ?_⟩
  refine ⟨nl rfl, ⟨_, hR.2.1⟩, rfl, nl rfl, 0, 0, Nat.zero_le _, Nat.zero_le _, c_nsize hR ?_⟩
  rw [hls]
  refine ⟨nl rfl, ⟨_, hp⟩, rfl, nl rfl, 0, 0, Nat.zero_le _, Nat.zero_le _, c_gtype hp ?_⟩
  rcases hty with hty | hty
  · obtain ⟨t6, t1⟩ := tb_1 hty
    refine ⟨by simp, _, _, hro.2.1 _ t6, rfl, ?_⟩
    rw [t1]
    refine ⟨fun c => absurd c (by decide), fun _ => ?_⟩
    rw [if_pos hty] at o1 o2
    refine ⟨nl rfl, _, _, hR.1, rfl, ?_⟩
    refine ⟨nl rfl, ⟨_, hR.2.2.1⟩, rfl, nl rfl, 5, 6167, nl rfl, nl rfl, c_brecv hK hro hi.2.1 hl4 h5 hp hty ea ha (fun z S1 k1 g1 => ?_) (fun z z2 => ?_) (fun z z2 S1 k1 g1 => ?_)⟩
    · rw [if_pos z] at o2
      dsimp only at o2
      rw [if_neg (by decide), if_neg (by decide)] at o2
      exact x_go.back mn_C_deliver (x_go.run mn_C_deliver 1 (tail _ S1 _ _ k1 g1 (o2 rfl S1)))
    · rw [if_neg z, if_pos z2] at o1
      exact o1 rfl
    · rw [if_neg z, if_neg (by rw [z2]; decide), if_neg (by rw [z2]; decide)] at o2
      exact x_go.back mn_C_deliver (x_go.run mn_C_deliver 1 (tail _ S1 _ _ k1 g1 (o2 rfl S1)))
  · obtain ⟨t6, t0⟩ := tb_0 hty
    have nty : ¬ (x.1 = 200 ∨ x.1 = 420 ∨ x.1 = 500) := by
      rcases hty with y | y | y <;> rw [y] <;> decide
    refine ⟨by simp, _, _, hro.2.1 _ t6, rfl, ?_⟩
    rw [t0]
    refine ⟨fun _ => ?_, fun c => (c rfl).elim⟩
    rw [if_neg nty] at o1 o2
    obtain ⟨f, hf, hf'⟩ := hR.2.2.2.2.2.2.2.1
    refine x_go.back mn_C_deliver (x_go.run mn_C_deliver 20 ?_)
    refine ⟨nl rfl, _, _, hR.1, rfl, ?_⟩
    refine ⟨nl rfl, ⟨_, hp⟩, rfl, nl rfl, 0, 0, Nat.zero_le _, Nat.zero_le _, c_gmach hp ?_⟩
    rw [eM]
    refine ⟨nl rfl, _, _, hf, z_in hM (by decide), ?_⟩
    rw [z_nat (by omega), hf' M hM]
    refine ⟨nl rfl, ⟨_, hR.2.2.2.1 M hM⟩, rfl, nl rfl, 12, 10259, nl rfl, nl rfl, c_mrecv (m := M) hK hro hM hi hn h5 hp hty (fun z S1 k1 g1 => ?_) (fun z z2 => ?_) (fun z z2 S1 k1 g1 => ?_)⟩
    · rw [if_pos z] at o2
      dsimp only at o2
      rw [if_neg (by decide), if_neg (by decide)] at o2
      exact x_go.back mn_C_deliver (tail _ S1 _ _ k1 g1 (o2 rfl S1))
    · rw [if_neg z, if_pos z2] at o1
      exact o1 rfl
    · rw [if_neg z, if_neg (by rw [z2]; decide), if_neg (by rw [z2]; decide)] at o2
      exact x_go.back mn_C_deliver (tail _ S1 _ _ k1 g1 (o2 rfl S1))
end DC
