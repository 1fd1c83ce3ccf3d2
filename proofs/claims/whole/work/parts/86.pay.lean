section CW
variable {S : XH} {P : XP} {d : DS} {m st : Nat} {tr am : Int32} {vs : List R6}
theorem KM.tak (h : KM d m tr am vs st S) : ∃ f, S 8 0 = some (.inr (0, 200, .inl f)) ∧ ∀ a, a < 200 → f a = d.1 18 a := by
  obtain ⟨q, s, cp, ls, hR, hX, -⟩ := h
  exact ⟨_, hR.tak, hX.1.2.2.2.2⟩
theorem CB.tak {q : Nat → Nat → Int32} {ls : Nat → List R6} (h : CB d q ls) {a : Nat} (v : Int32) : CB (dset d 18 a v) (gs q 12 (upd (q 12) a v)) ls := by
  obtain ⟨h1, h2, h3, h4, h5⟩ := h
  have e1 : ∀ k, k ≠ 18 → (dset d 18 a v).1 k = d.1 k := fun k hk => dset_nt hk
  have e2 : ∀ k, k ≠ 12 → gs q 12 (upd (q 12) a v) k = q k := fun k hk => gs_ne hk
  refine ⟨h1, fun m' hm' => ?_, ?_, fun w hw => ?_, fun b hb => ?_⟩
  · rw [e2 1 (by omega), e2 2 (by omega), e2 5 (by omega), e2 8 (by omega), e2 9 (by omega), e2 10 (by omega), e2 11 (by omega), e2 (20 + m') (by omega), e1 11 (by decide), e1 12 (by decide), e1 10 (by decide), e1 17 (by decide), e1 14 (by decide), e1 15 (by decide), e1 16 (by decide), e1 13 (by decide)]
    exact h2 m' hm'
  · rw [e2 5 (by omega), e1 9 (by decide)]
    exact h3
  · rw [e2 7 (by omega), e2 6 (by omega), e1 8 (by decide), e1 7 (by decide)]
    exact h4 w hw
  · rw [gs_self]
    by_cases e : b = a
    · subst e
      rw [upd_self, dset_at']
    · rw [upd_ne e, dset_nj e]
      exact h5 b hb
theorem KM.putTak (h : KM d m tr am vs st S) {f : Nat → Int32} (hf : S 8 0 = some (.inr (0, 200, .inl f))) {a : Nat} (v : Int32) : KM (dset d 18 a v) m tr am vs st (x_up S 8 0 (.inr (0, 200, .inl (upd f a v)))) := by
  obtain ⟨q, s, cp, ls, hR, hX, hcp, hF, e3, e4, e6, es⟩ := h
  have ef : q 12 = f := by
    have := hR.tak.symm.trans hf
    simp at this
    exact this
  have r : RC (gs q 12 (upd f a v)) s cp ls (x_up S 8 0 (.inr (0, 200, .inl (upd f a v)))) := hR.putA (n := 0) (by decide) (upd f a v)
  have hb := hX.1.tak (a := a) v
  rw [ef] at hb
  exact ⟨_, s, cp, ls, r, ⟨hb, fun m' hm' hne => (hX.2.1 m' hm' hne).keep (by rw [dset_nt (by decide)]) rfl (by rw [gs_ne (by decide)]) (by rw [gs_ne (by decide)]) rfl rfl, hX.2.2.1.keep rfl (by rw [gs_ne (by decide)]) (by rw [gs_ne (by decide)]), hX.2.2.2.1.keep rfl (by rw [gs_ne (by decide)]), hX.2.2.2.2⟩, hcp.eq rfl, hF.up, by rw [gs_ne (by decide)]; exact e3, by rw [gs_ne (by decide)]; exact e4, e6, es⟩
/-- payOut: all of dansw but the state -/
noncomputable def dpo (d : DS) (m : Nat) (t : Int32) : DS × Bool := match dmix d m (amtOf (d.2 m) (Int32.ofNat m) t).toNatClampNeg with
  | none => drev d m t (amtOf (d.2 m) (Int32.ofNat m) t)
  | some x => dthen (drecB d m (2, Int32.ofNat m, t, 0, pk x, 0)) fun d1 => dpaid (ddisp d1 m t x (oacc (fR (d.2 m) 1 (Int32.ofNat m) t))) m t ((ddisp d1 m t x (oacc (fR (d.2 m) 1 (Int32.ofNat m) t))).1 15 m)
theorem dthen_as (r : DS × Bool) (f g : DS → DS × Bool) : dthen (dthen r f) g = dthen r fun d => dthen (f d) g := by
  rcases bcase r.2 with q | q
  · rw [dthen_t q, dthen_t q, dthen_t q]
  · rw [dthen_f q, dthen_f q]
theorem dansw_po {t : Int32} (h : d.1 10 m = 4) (ht : t = dlast d m) : dansw d m t 0 = dthen (dpo d m t) fun d => (dset d 10 m 1, false) := by
  unfold dansw dpo
  rw [if_pos ⟨h, ht⟩, if_pos rfl]
  subst ht
  cases e : dmix d m (amtOf (d.2 m) (Int32.ofNat m) (dlast d m)).toNatClampNeg with
  | none => rfl
  | some x =>
    show dpay d m (dlast d m) x = _
    rw [dthen_as]
    rfl
set_option maxHeartbeats 4000000 in
theorem c_payOut {n : Nat} (h : KM d m (dlast d m) am (voidsOf (d.2 m) (Int32.ofNat m)) st S) (hro : ro S) (hm : m < 4) (hi : Inv n d) (hn : n ≤ 512) (h5 : (d.2 5).length ≤ 3000) (h4 : d.1 10 m = 4) (ham : am = amtOf (d.2 m) (Int32.ofNat m) (dlast d m))
    (h1 : (dpo d m (dlast d m)).2 = true → kT (dpo d m (dlast d m)).1 S 14 P)
    (h0 : (dpo d m (dlast d m)).2 = false → ∀ S', KM (dpo d m (dlast d m)).1 m (dlast d m) am (voidsOf ((dpo d m (dlast d m)).1.2 m) (Int32.ofNat m)) st S' → asks ((dpo d m (dlast d m)).1.2 m) = asks (d.2 m) → (dpo d m (dlast d m)).1.1 10 m = d.1 10 m → fc S S' → P (.inl none) S') : Y_M_payOut 12 10259 [xv_r 3 m] S P := by
  obtain ⟨f1, f2, f3, f4, f5, e1, fe, fa⟩ := ((hi.1 m hm).2.1 h4).1
  obtain ⟨l1, l2⟩ := len_inv hi hn hm
  obtain ⟨v, v1, v2, v3⟩ := amt_ex (hi.1 m hm).1.1 (by omega) f1
  have v3 : amtOf (d.2 m) (Int32.ofNat m) (dlast d m) = Int32.ofNat v := v3
  obtain ⟨-, -, nt, ⟨j, hj, hjam⟩, -, -, ac, hac, hac'⟩ := (hi.1 m hm).1
  obtain ⟨q, s, cp, ls, hR, hX, -⟩ := id h
  obtain ⟨fd, hd⟩ := h.dobj hm
  have eacc : oacc (fR (d.2 m) 1 (Int32.ofNat m) (dlast d m)) = ac := by
    rw [fe]
    show e1.2.2.2.1.toNatClampNeg = ac
    rw [fa, hac', z_nat (by omega)]
  refine x_go.run mn_M_payOut 30 ?_
  refine ⟨nl rfl, _, _, (h.obj hm), rfl, ?_⟩
  refine ⟨nl rfl, _, _, (h.obj hm), rfl, ?_⟩
  rw [show am = Int32.ofNat v from ham.trans v3]
  refine ⟨nl rfl, ⟨_, hd⟩, rfl, nl rfl, 0, 0, Nat.zero_le _, Nat.zero_le _, c_mixOf hR hX.1 hm nt v2 ?_⟩
  unfold dpo at h0 h1
  rw [eacc] at h0 h1
  rw [v3, z_nat (by omega)] at h0 h1
  unfold mixI
  cases e : dmix d m v with
  | none =>
    rw [e] at h0 h1
    dsimp only at h0 h1
    have er : vrest d m (dlast d m) (am - 0) = drev d m (dlast d m) (Int32.ofNat v) := by
      unfold vrest
      rw [z_sub0, ham, v3, if_pos (show (0 : Int32) < Int32.ofNat v from (z_lt (a := 0) (by decide) (by omega)).mpr (by omega))]
    refine ⟨fun c => (c rfl).elim, fun _ => ?_⟩
    refine ⟨nl rfl, ⟨_, h.obj hm⟩, rfl, nl rfl, 6, 6935, nl rfl, nl rfl, c_voidRest (m := m) h hm (by omega) h5 l2 hro.2.2.2.2.2 (fun z => ?_) (fun z S1 k1 g1 => ?_)⟩
    · rw [er] at z ⊢
      exact h1 z
    · obtain ⟨w1, w2, w3⟩ := vrest_m hm z f5
      rw [w1] at k1
      rw [er] at z k1 w2 w3
      exact h0 z S1 k1 w2 w3 g1
  | some x =>
    rw [e] at h0 h1
    dsimp only at h0 h1
    have h40 := mix_40 e
    refine ⟨fun _ => ?_, fun c => (c (pk_pos h40)).elim⟩
    refine x_go.back mn_M_payOut (x_go.run mn_M_payOut 60 ?_)
    refine ⟨nl rfl, _, _, (h.obj hm), rfl, ?_⟩
    obtain ⟨n', -, hn', -⟩ := h.rf.fr
    refine ⟨nl rfl, nl rfl, 11, n', nl rfl, hn', ?_⟩
    have k0 := h.new hn' (.inl (6, xD6))
    refine ⟨nl rfl, _, _, (k0.obj hm), rfl, ?_⟩
    refine ⟨nl rfl, _, _, (k0.obj hm), rfl, ?_⟩
    refine ⟨rfl, nl rfl, 0, 0, Nat.zero_le _, Nat.zero_le _, c_einit2 2 (Int32.ofNat m) (dlast d m) (pk x) (x_up_self _ _ _ _) ?_⟩
    rw [x_up_up]
    have k1 := h.new hn' (.inl (6, eR (2, Int32.ofNat m, dlast d m, 0, pk x, 0)))
    have p1 : x_up S 11 n' (.inl (6, eR (2, Int32.ofNat m, dlast d m, 0, pk x, 0))) 11 n' = some (.inl (6, eR (2, Int32.ofNat m, dlast d m, 0, pk x, 0))) := x_up_self _ _ _ _
    have g1 : fc S (x_up S 11 n' (.inl (6, eR (2, Int32.ofNat m, dlast d m, 0, pk x, 0)))) := fc.rf.up (Or.inl (by decide))
    generalize x_up S 11 n' (.inl (6, eR (2, Int32.ofNat m, dlast d m, 0, pk x, 0))) = S1 at k1 p1 g1 ⊢
    obtain ⟨fj, hjo⟩ := k1.jobj hm
    refine ⟨nl rfl, ⟨_, hjo⟩, rfl, nl rfl, 2, 1656, nl rfl, nl rfl, c_wr (m := m) k1 hm p1 (by omega) (hro.fc g1).2.2.2.2.2 (Nat.le_refl _) (Nat.le_refl _) (fun hf => ?_) (fun hf S2 k2 g2 _ _ => ?_)⟩
    · rw [dthen_t hf] at h1
      exact (h1 hf).tr g1
    · rw [dthen_f hf] at h0 h1
      have ed : (drecB d m (2, Int32.ofNat m, dlast d m, 0, pk x, 0)).1.2 m = d.2 m ++ [(2, Int32.ofNat m, dlast d m, 0, pk x, 0)] := drecB_2 hf
      have e5 : (drecB d m (2, Int32.ofNat m, dlast d m, 0, pk x, 0)).1.2 5 = d.2 5 := drec_ne (by omega)
      have e10 : (drecB d m (2, Int32.ofNat m, dlast d m, 0, pk x, 0)).1.1 10 m = d.1 10 m := (STp.rec d hm _).2 hf
      have en : ∀ k, 11 ≤ k → (drecB d m (2, Int32.ofNat m, dlast d m, 0, pk x, 0)).1.1 k = d.1 k := fun k hk => drec_1 hk
      have k2 : KM (drecB d m (2, Int32.ofNat m, dlast d m, 0, pk x, 0)).1 m (dlast d m) am (voidsOf (d.2 m) (Int32.ofNat m)) st S2 := k2
      generalize (drecB d m (2, Int32.ofNat m, dlast d m, 0, pk x, 0)).1 = D at *
      have ev : voidsOf (D.2 m) (Int32.ofNat m) = voidsOf (d.2 m) (Int32.ofNat m) := by
        rw [ed]
        exact voids_x (show ¬ (2 : Int32) = 4 by decide) (show ¬ (2 : Int32) = 5 by decide)
      have ea : asks (D.2 m) = asks (d.2 m) := by
        rw [ed, asks_snoc]
        rfl
      have e55 : fR (D.2 m) 5 (Int32.ofNat m) (dlast d m) = none := by
        rw [ed, fR_snoc_x (fun z => by have := z.1; cases this)]
        exact f5
      have eam : amtOf (D.2 m) (Int32.ofNat m) (dlast d m) = am := by
        rw [ed, amt_snocx (show ¬ (2 : Int32) = 1 by decide), ham]
      have hlD : (D.2 m).length ≤ 1025 := by
        rw [ed, List.length_append]
        show _ + 1 ≤ _
        omega
      obtain ⟨ft, ht, ht'⟩ := k2.tak
      obtain ⟨fd2, hd2⟩ := k2.dobj hm
      -- behind the dispenser: the payment's end
      have tail : ∀ (S4 : XH), KM (ddisp D m (dlast d m) x ac) m (dlast d m) am (voidsOf (d.2 m) (Int32.ofNat m)) st S4 → fc S S4 → (ddisp D m (dlast d m) x ac).1 14 m = dlast d m → x_go b_M_payOut P 71 [some (xv_r 3 m), some (xv_i (pk x))] [] S4 9 8597 := by
        intro S4 k4 g4 e14
        have ed2 := ddisp_2 D m (dlast d m) x ac
        have e10d : (ddisp D m (dlast d m) x ac).1 10 m = D.1 10 m := by
          unfold ddisp
          split
          · rfl
          · rw [(ddisp1_at D m (dlast d m) x ac).2.2.2.2.2.2 10 (by decide)]
        have ec : dcame (ddisp D m (dlast d m) x ac) m (dlast d m) = (ddisp D m (dlast d m) x ac).1 15 m := if_pos e14
        rw [← ec] at h0 h1
        rw [← ev, ← ed2] at k4
        refine x_go.run mn_M_payOut 3 ?_
        refine ⟨nl rfl, ⟨_, k4.obj hm⟩, rfl, nl rfl, 9, 8597, nl rfl, nl rfl, c_endPay (m := m) k4 (hro.fc g4) hm (by rw [ed2]; exact eam.symm) (by rw [ed2]; exact e55) (by rw [ed2]; omega) (by rw [ed2, e5]; exact h5) (by rw [ed2, ev]; exact l2) (fun z => (h1 z).tr g4) (fun z S5 k5 a5 b5 g5 => ?_)⟩
        refine h0 z S5 k5 ?_ ?_ (g4.tr g5)
        · rw [a5, ed2, ea]
        · rw [b5, e10d, e10]
      have o2 := k2.obj hm
      rw [en 11 (by decide), hac'] at o2
      refine ⟨nl rfl, _, _, o2, rfl, ?_⟩
      refine ⟨nl rfl, _, _, o2, rfl, ?_⟩
      refine ⟨_, _, ht, z_in hac (by decide), ?_⟩
      refine ⟨nl rfl, _, _, o2, rfl, ?_⟩
      refine ⟨nl rfl, _, _, o2, rfl, ?_⟩
      have hjD : D.1 17 m = Int32.ofNat j := by
        rw [en 17 (by decide)]
        exact hjam
      refine ⟨nl rfl, ⟨_, hd2⟩, rfl, nl rfl, 0, 0, Nat.zero_le _, Nat.zero_le _, c_dispense (m := m) k2 (hro.fc (g1.tr g2)) hm h40 hj hjD (fun z => ?_) (fun z S3 k3 g3 u3 => ?_)⟩
      · refine ⟨_, _, ht, nl rfl, z_in hac (by decide), ?_⟩
        rw [z_nat (by omega)]
        have k3 := k2.putTak ht (a := ac) (ft ac + 0)
        have ei : dset D 18 ac (ft ac + 0) = ddisp D m (dlast d m) x ac := by
          unfold ddisp
          rw [if_pos z, Int32.add_zero, ht' ac hac]
          refine ds_ext (fun k => ?_) rfl
          by_cases ek : k = 18
          · subst ek
            rw [dset_at, upd_id]
          · rw [dset_nt ek]
        rw [ei] at k3
        refine x_go.back mn_M_payOut (tail _ k3 (g1.tr (g2.tr (fc.rf.up (Or.inl (by decide))))) ?_)
        unfold ddisp
        rw [if_pos z]
        exact z
      · rw [u3.symm] at ht
        refine ⟨_, _, ht, nl rfl, z_in hac (by decide), ?_⟩
        rw [z_nat (by omega)]
        have k4 := k3.putTak ht (a := ac) (ft ac + dvalue D m x)
        have ei : dset (dd5 D m (dlast d m) x) 18 ac (ft ac + dvalue D m x) = ddisp D m (dlast d m) x ac := by
          unfold ddisp
          rw [if_neg z, ht' ac hac]
          have e18 : (dd5 D m (dlast d m) x).1 18 = D.1 18 := by
            unfold dd5
            have f_nt : ∀ (d : DS) (n : Nat) (f : Nat → Int32) (k : Nat), k ≠ n → (dfun d n f).1 k = d.1 k := fun d n f k h => gs_ne h
            rw [f_nt _ _ _ _ (by decide), f_nt _ _ _ _ (by decide), f_nt _ _ _ _ (by decide), f_nt _ _ _ _ (by decide), f_nt _ _ _ _ (by decide)]
          show dfun (dd5 D m (dlast d m) x) 18 (upd ((dd5 D m (dlast d m) x).1 18) ac (D.1 18 ac + dvalue D m x)) = _
          rw [e18]
          rfl
        rw [ei] at k4
        refine x_go.back mn_M_payOut (tail _ k4 (g1.tr (g2.tr (g3.tr (fc.rf.up (Or.inl (by decide)))))) ?_)
        unfold ddisp
        rw [if_neg z, (ddisp1_at D m (dlast d m) x ac).2.2.1, upd_self]
end CW
