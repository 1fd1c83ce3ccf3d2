section CU
variable {S : XH} {P : XP} {d : DS} {m st : Nat} {tr am : Int32} {vs : List R6}
def oDk (m : Nat) (d : DS) : List XV := [xv_r 8 (2 + m), xv_i (d.1 17 m), xv_i (d.1 14 m), xv_i (d.1 15 m), xv_i (d.1 16 m)]
theorem KM.dob (h : KM d m tr am vs st S) (hm : m < 4) : S 5 m = some (.inl (5, oDk m d)) := by
  obtain ⟨q, s, cp, ls, hR, hX, -⟩ := h
  obtain ⟨-, -, -, b4, b5, b6, b7, -⟩ := hX.1.2.1 m hm
  rw [hR.2.2.2.2.2.1 m hm]
  unfold oD oDk
  rw [b4, b5, b6, b7]
theorem KM.nts (h : KM d m tr am vs st S) (hm : m < 4) : ∃ f, S 8 (2 + m) = some (.inr (0, 4, .inl f)) ∧ ∀ c, c < 4 → f c = d.1 13 (4 * m + c) := by
  obtain ⟨q, s, cp, ls, hR, hX, -⟩ := h
  exact ⟨_, hR.notes hm, (hX.1.2.1 m hm).2.2.2.2.2.2.2⟩
theorem KM.putNote (h : KM d m tr am vs st S) (hm : m < 4) {f : Nat → Int32} (hf : S 8 (2 + m) = some (.inr (0, 4, .inl f))) {c : Nat} (hc : c < 4) (v : Int32) : KM (dset d 13 (4 * m + c) v) m tr am vs st (x_up S 8 (2 + m) (.inr (0, 4, .inl (upd f c v)))) := by
  obtain ⟨q, s, cp, ls, hR, hX, hcp, hF, e3, e4, e6, es⟩ := h
  have ef : q (20 + m) = f := by
    have := (hR.notes hm).symm.trans hf
    simp at this
    exact this
  have r := hR.putN hm (upd f c v)
  have hb := hX.1.note hm hc v
  rw [ef] at hb
  exact ⟨_, s, cp, ls, r, ⟨hb, fun m' hm' hne => (hX.2.1 m' hm' hne).keep (by rw [dset_nt (by decide)]) rfl (by rw [gs_ne (by omega)]) (by rw [gs_ne (by omega)]) rfl rfl, hX.2.2.1.keep rfl (by rw [gs_ne (by omega)]) (by rw [gs_ne (by omega)]), hX.2.2.2.1.keep rfl (by rw [gs_ne (by omega)]), hX.2.2.2.2⟩, hcp.eq rfl, hF.up, by rw [gs_ne (by omega)]; exact e3, by rw [gs_ne (by omega)]; exact e4, e6, es⟩
theorem KM.putD (h : KM d m tr am vs st S) (hm : m < 4) {t n : Nat} (htn : (t = 8 ∧ n = 17) ∨ (t = 9 ∧ n = 14) ∨ (t = 10 ∧ n = 15) ∨ (t = 11 ∧ n = 16)) (v : Int32) : KM (dset d n m v) m tr am vs st (x_up S 5 m (.inl (5, (oDk m d).set (t - 7) (xv_i v)))) := by
  obtain ⟨q, s, cp, ls, hR, hX, hcp, hF, e3, e4, e6, es⟩ := h
  have r := hR.putD hm (t := t) ⟨by omega, by omega⟩ v
  have eo : oD q m = oDk m d := by
    obtain ⟨-, -, -, b4, b5, b6, b7, -⟩ := hX.1.2.1 m hm
    unfold oD oDk
    rw [b4, b5, b6, b7]
  rw [eo] at r
  have hb := hX.1.mset (m := m) (t := t) (n := n) (by omega) v
  exact ⟨_, s, cp, ls, r, ⟨hb, fun m' hm' hne => (hX.2.1 m' hm' hne).keep (by rw [dset_nt (by omega)]) rfl (by rw [gs_ne (by omega)]) (by rw [gs_ne (by omega)]) rfl rfl, hX.2.2.1.keep rfl (by rw [gs_ne (by omega)]) (by rw [gs_ne (by omega)]), hX.2.2.2.1.keep rfl (by rw [gs_ne (by omega)]), hX.2.2.2.2⟩, hcp.eq rfl, hF.up, by rw [gs_ne (by omega)]; exact e3, by rw [gs_ne (by omega)]; exact e4, e6, es⟩
def dd5 (d : DS) (m : Nat) (t : Int32) (x : Q4) : DS := dfun (dfun (dfun (dfun (dfun d 13 (ntake (d.1 13) m (outs x (jamN d m)))) 17 (upd (d.1 17) m 41)) 14 (upd (d.1 14) m t)) 15 (upd (d.1 15) m (dvalue d m x))) 16 (upd (d.1 16) m (d.1 16 m + dvalue d m x))
def dn4 (d : DS) (m : Nat) (o : Q4) : DS := dset (dset (dset (dset d 13 (4 * m + 3) (d.1 13 (4 * m + 3) - Int32.ofNat o.2.2.2)) 13 (4 * m + 2) (d.1 13 (4 * m + 2) - Int32.ofNat o.2.2.1)) 13 (4 * m + 1) (d.1 13 (4 * m + 1) - Int32.ofNat o.2.1)) 13 (4 * m + 0) (d.1 13 (4 * m + 0) - Int32.ofNat o.1)
theorem dn4_13 (d : DS) (m : Nat) (o : Q4) : (dn4 d m o).1 13 = ntake (d.1 13) m o ∧ (∀ n, n ≠ 13 → (dn4 d m o).1 n = d.1 n) ∧ (dn4 d m o).2 = d.2 := by
  refine ⟨?_, fun n hn => ?_, rfl⟩
  · unfold dn4 ntake
    rw [dset_at, dset_at, dset_at, dset_at]
    rfl
  · unfold dn4
    rw [dset_nt hn, dset_nt hn, dset_nt hn, dset_nt hn]
theorem ds_ext {d d' : DS} (h1 : ∀ n, d'.1 n = d.1 n) (h2 : d'.2 = d.2) : d' = d := Prod.ext (funext h1) h2
theorem dd5_eq (d : DS) (m : Nat) (t : Int32) (x : Q4) : dset (dset (dset (dn4 (dset d 17 m 41) m (outs x (jamN d m))) 14 m t) 15 m (dvalue d m x)) 16 m (d.1 16 m + dvalue d m x) = dd5 d m t x := by
  obtain ⟨a1, a2, a3⟩ := dn4_13 (dset d 17 m 41) m (outs x (jamN d m))
  have f_nt : ∀ (d : DS) (n : Nat) (f : Nat → Int32) (k : Nat), k ≠ n → (dfun d n f).1 k = d.1 k := fun d n f k h => gs_ne h
  have f_at : ∀ (d : DS) (n : Nat) (f : Nat → Int32), (dfun d n f).1 n = f := fun d n f => gs_self _ _ _
  refine ds_ext (fun n => ?_) a3
  unfold dd5
  by_cases e16 : n = 16
  · subst e16
    rw [dset_at, f_at, dset_nt (by decide), dset_nt (by decide), a2 16 (by decide), dset_nt (by decide)]
  rw [dset_nt e16, f_nt _ _ _ _ e16]
  by_cases e15 : n = 15
  · subst e15
    rw [dset_at, f_at, dset_nt (by decide), a2 15 (by decide), dset_nt (by decide)]
  rw [dset_nt e15, f_nt _ _ _ _ e15]
  by_cases e14 : n = 14
  · subst e14
    rw [dset_at, f_at, a2 14 (by decide), dset_nt (by decide)]
  rw [dset_nt e14, f_nt _ _ _ _ e14]
  by_cases e17 : n = 17
  · subst e17
    rw [f_at, a2 17 (by decide), dset_at]
  rw [f_nt _ _ _ _ e17]
  by_cases e13 : n = 13
  · subst e13
    rw [f_at, a1, dset_nt (by decide)]
  rw [f_nt _ _ _ _ e13, a2 n e13, dset_nt e17]
set_option maxHeartbeats 4000000 in
theorem c_dispense {t : Int32} {x : Q4} {j : Nat} (h : KM d m tr am vs st S) (hro : ro S) (hm : m < 4) (hx : x.1 ≤ 40 ∧ x.2.1 ≤ 40 ∧ x.2.2.1 ≤ 40 ∧ x.2.2.2 ≤ 40) (hj : j ≤ 41) (hjam : d.1 17 m = Int32.ofNat j)
    (h1 : d.1 14 m = t → P (.inl (some (xv_i 0))) S) (h0 : d.1 14 m ≠ t → ∀ S', KM (dd5 d m t x) m tr am vs st S' → fc S S' → S' 8 0 = S 8 0 → P (.inl (some (xv_i (dvalue d m x)))) S') : Y_D_dispense 0 0 [xv_r 5 m, xv_i t, xv_i (pk x)] S P := by
  have hjn : jamN d m = j := by
    unfold jamN
    rw [hjam, z_nat (by omega)]
  refine x_go.run mn_D_dispense 20 ?_
  refine ⟨nl rfl, _, _, (h.dob hm), rfl, ?_⟩
  refine ⟨fun c => ?_, fun c => h1 (Classical.not_not.mp c).symm⟩
  have h0 := h0 (fun z => c z.symm)
  refine ⟨nl rfl, _, _, (h.dob hm), rfl, ?_⟩
  refine ⟨trivial, _, h.dob hm, nl rfl, nl rfl, ?_⟩
  have k1 := h.putD hm (Or.inl ⟨rfl, rfl⟩) 41
  have f1 : fc S _ := fc.rf.up (S' := S) (k := 5) (i := m) (c := .inl (5, (oDk m d).set (8 - 7) (xv_i 41))) (Or.inl (by decide))
  have u1 : x_up S 5 m (.inl (5, (oDk m d).set (8 - 7) (xv_i 41))) 8 0 = S 8 0 := by rw [x_up_k (by decide)]
  have step : ∀ (c l V : Nat) (D : DS) (S1 : XH) (j6 : Option XV), c < 4 → l ≤ 41 → V ≤ 10000 → KM D m tr am vs st S1 → fc S S1 → S1 8 0 = S 8 0 →
      (∀ (S2 : XH) (j6 : Option XV), KM (dset D 13 (4 * m + c) (D.1 13 (4 * m + c) - Int32.ofNat (min (q4c x c) l))) m tr am vs st S2 → fc S S2 → S2 8 0 = S 8 0 → x_go b_D_dispense P 27 [some (xv_r 5 m), some (xv_i t), some (xv_i (pk x)), some (xv_i (Int32.ofNat (l - min (q4c x c) l))), some (xv_i (Int32.ofNat (V + min (q4c x c) l * bw c))), some (xv_i (Int32.ofNat c - 1)), j6] [] S2 0 0) →
      x_go b_D_dispense P 27 [some (xv_r 5 m), some (xv_i t), some (xv_i (pk x)), some (xv_i (Int32.ofNat l)), some (xv_i (Int32.ofNat V)), some (xv_i (Int32.ofNat c)), j6] [] S1 0 0 := by
    intro c l V D S1 j6 hc hl hV k f u nx
    have hq : q4c x c ≤ 40 := by
      unfold q4c
      split
      · omega
      · split
        · omega
        · split <;> omega
    obtain ⟨F, hF, hF'⟩ := k.nts hm
    have hw := (hro.fc f).2.2.2.2.1 0 (by decide)
    refine x_go.run mn_D_dispense 40 ?_
    refine ⟨fun z => (z_neg (by omega) z).elim, fun _ => ?_⟩
    refine ⟨nl rfl, rfl, nl rfl, 0, 0, Nat.zero_le _, Nat.zero_le _, c_notesIn hx hc ?_⟩
    refine ⟨nl rfl, ?_⟩
    refine x_go.back mn_D_dispense ?_
    show x_go b_D_dispense P 42 [some (xv_r 5 m), some (xv_i t), some (xv_i (pk x)), some (xv_i (Int32.ofNat l)), some (xv_i (Int32.ofNat V)), some (xv_i (Int32.ofNat c)), j6] [xv_i (if Int32.ofNat l < Int32.ofNat (q4c x c) then Int32.ofNat l else Int32.ofNat (q4c x c))] S1 0 0
    rw [z_min _ _ (by omega) (by omega)]
    refine x_go.run mn_D_dispense 40 ?_
    refine ⟨nl rfl, _, _, (k.dob hm), rfl, ?_⟩
    refine ⟨_, _, hF, z_in hc (by decide), ?_⟩
    refine ⟨_, _, hF, nl rfl, z_in hc (by decide), ?_⟩
    rw [z_nat (by omega), hF' c hc]
    have k2 := k.putNote hm hF hc (D.1 13 (4 * m + c) - Int32.ofNat (min (q4c x c) l))
    have f2 : fc S _ := f.tr (fc.rf.up (S' := S1) (k := 8) (i := 2 + m) (c := .inr (0, 4, .inl (upd F c (D.1 13 (4 * m + c) - Int32.ofNat (min (q4c x c) l))))) (Or.inl (by decide)))
    refine ⟨4, st_wth, by rw [x_up_k (by simp)]; exact hw, z_in hc (by decide), ?_⟩
    rw [z_nat (by omega), bw_w hc]
    have kk := nx _ (some (xv_i (Int32.ofNat (min (q4c x c) l)))) k2 f2 (by rw [x_up_ne (by omega)]; exact u)
    rw [← z_dec, ← z_add V, ← z_mul, ← z_sub (by omega)] at kk
    exact x_go.back mn_D_dispense (x_go.run mn_D_dispense 5 kk)
  have fin : ∀ (S4 : XH) (l V : Nat) (j6 : Option XV), KM (dn4 (dset d 17 m 41) m (outs x (jamN d m))) m tr am vs st S4 → fc S S4 → S4 8 0 = S 8 0 → V = wsum (outs x (jamN d m)) → x_go b_D_dispense P 27 [some (xv_r 5 m), some (xv_i t), some (xv_i (pk x)), some (xv_i (Int32.ofNat l)), some (xv_i (Int32.ofNat V)), some (xv_i (Int32.ofNat 0 - 1)), j6] [] S4 0 0 := by
    intro S4 l V j6 k4 f4 u4 hV
    subst hV
    refine x_go.run mn_D_dispense 20 ?_
    refine ⟨fun _ => ?_, fun c => (c z_m1).elim⟩
    refine ⟨trivial, _, k4.dob hm, nl rfl, nl rfl, ?_⟩
    have k5 := k4.putD hm (Or.inr (Or.inl ⟨rfl, rfl⟩)) t
    refine ⟨trivial, _, k5.dob hm, nl rfl, nl rfl, ?_⟩
    have k6 := k5.putD hm (Or.inr (Or.inr (Or.inl ⟨rfl, rfl⟩))) (dvalue d m x)
    refine ⟨nl rfl, _, _, (k6.dob hm), rfl, ?_⟩
    refine ⟨trivial, _, k6.dob hm, nl rfl, nl rfl, ?_⟩
    have k7 := k6.putD hm (Or.inr (Or.inr (Or.inr ⟨rfl, rfl⟩))) (d.1 16 m + dvalue d m x)
    rw [dd5_eq] at k7
    have e16 : (dset (dset (dn4 (dset d 17 m 41) m (outs x (jamN d m))) 14 m t) 15 m (dvalue d m x)).1 16 m = d.1 16 m := by
      rw [dset_nt (by decide), dset_nt (by decide), (dn4_13 _ _ _).2.1 16 (by decide), dset_nt (by decide)]
    have kk := h0 _ k7 (f4.tr (((fc.rf.up (Or.inl (by decide))).up (Or.inl (by decide))).up (Or.inl (by decide)))) (by rw [x_up_k (by decide), x_up_k (by decide), x_up_k (by decide)]; exact u4)
    rw [← e16] at kk
    exact kk
  have b3 : q4c x 3 = x.2.2.2 := rfl
  have b2 : q4c x 2 = x.2.2.1 := rfl
  have b1 : q4c x 1 = x.2.1 := rfl
  have b0 : q4c x 0 = x.1 := rfl
  have w3 : bw 3 = 50 := rfl
  have w2 : bw 2 = 20 := rfl
  have w1 : bw 1 = 10 := rfl
  have w0 : bw 0 = 5 := rfl
  refine x_go.back mn_D_dispense (x_go.run mn_D_dispense 4 ?_)
  rw [hjn] at fin
  have go := step 3 j 0 _ _ none (by decide) hj (by decide) k1 f1 u1 fun S2 j6 k2 f2 u2 => ?_
  · rw [← hjam] at go
    exact go
  rw [z_suc1, b3, w3]
  rw [b3] at k2
  refine step 2 _ _ _ S2 j6 (by decide) (by omega) (by omega) k2 f2 u2 fun S3 j6 k3 f3 u3 => ?_
  rw [z_suc1, b2, w2]
  rw [b2] at k3
  refine step 1 _ _ _ S3 j6 (by decide) (by omega) (by omega) k3 f3 u3 fun S4 j6 k4 f4 u4 => ?_
  rw [z_suc1, b1, w1]
  rw [b1] at k4
  refine step 0 _ _ _ S4 j6 (by decide) (by omega) (by omega) k4 f4 u4 fun S5 j6 k5 f5 u5 => ?_
  rw [b0, w0]
  rw [b0] at k5
  refine fin S5 _ _ j6 ?_ f5 u5 ?_
  · have E : dn4 (dset d 17 m 41) m (outs x j) = _ := rfl
    rw [dset_nj (show 4 * m + 2 ≠ 4 * m + 3 by omega), dset_nj (show 4 * m + 1 ≠ 4 * m + 2 by omega), dset_nj (show 4 * m + 1 ≠ 4 * m + 3 by omega), dset_nj (show 4 * m + 0 ≠ 4 * m + 1 by omega), dset_nj (show 4 * m + 0 ≠ 4 * m + 2 by omega), dset_nj (show 4 * m + 0 ≠ 4 * m + 3 by omega)] at k5
    exact k5
  · unfold wsum outs
    dsimp only
    omega
end CU
