/-! MESSAGES are never taken back -/
def gw (d d' : DS) : Prop := (d.2 5).length ≤ (d'.2 5).length
theorem gw.rf {d : DS} : gw d d := Nat.le_refl _
theorem gw.tr {d d' d'' : DS} (h : gw d d') (h' : gw d' d'') : gw d d'' := Nat.le_trans h h'
theorem gw.eq {d d' : DS} (h : d'.2 5 = d.2 5) : gw d d' := by
  unfold gw
  rw [h]
  exact Nat.le_refl _
theorem gw.rec {d : DS} {w : Nat} {e : R6} (hw : w ≠ 5) : gw d (drecB d w e).1 := gw.eq (drec_ne hw.symm)
theorem gw.then {d : DS} {r : DS × Bool} {f : DS → DS × Bool} (h : gw d r.1) (hf : ∀ d', gw d d' → gw d (f d').1) : gw d (dthen r f).1 := by
  rcases bcase r.2 with q | q
  · rw [dthen_t q]
    exact h
  · rw [dthen_f q]
    exact hf _ h
theorem gw.sent {d d' : DS} {e : R6} (h : gw d d') : gw d (dsent d' e) := h.tr (dsent_grow d' e)
theorem gw.rev {d d' : DS} {m : Nat} {t v : Int32} (hm : m < 4) (h : gw d d') : gw d (drev d' m t v).1 := h.tr (gw.then (gw.rec (by omega)) fun d'' h => h.sent)
theorem gw.late {d : DS} {m : Nat} (hm : m < 4) : gw d (dlate d m).1 := gw.then (gw.rf.rev hm) fun d' h => h.tr (gw.eq rfl)
theorem gw.rest {d d' : DS} {m : Nat} {t v : Int32} (hm : m < 4) (h : gw d d') : gw d (drest d' m t v).1 := by
  unfold drest
  split
  · exact h.rev hm
  · exact h
theorem gw.paid {d d' : DS} {m : Nat} {t v : Int32} (hm : m < 4) (h : gw d d') : gw d (dpaid d' m t v).1 := h.tr (gw.then (gw.rec (by omega)) fun d'' h => h.rest hm)
theorem gw.pay {d : DS} {m : Nat} {t : Int32} {x : Q4} (hm : m < 4) : gw d (dpay d m t x).1 := gw.then (gw.rec (by omega)) fun d' h => gw.then (gw.paid hm (h.tr (gw.eq (by rw [ddisp_2])))) fun d'' h' => h'.tr (gw.eq rfl)
theorem gw.answ {d : DS} {m : Nat} {t a : Int32} (hm : m < 4) : gw d (dansw d m t a).1 := by
  unfold dansw
  split
  · split
    · split
      · exact gw.late hm
      · exact gw.pay hm
    · exact gw.then (gw.rec (by omega)) fun d' h => h.tr (gw.eq rfl)
  · exact gw.rf
theorem gw.bank {d : DS} {e : R6} : gw d (dbank d e).1 := by
  unfold dbank
  split
  · split
    · exact gw.then (gw.rec (by omega)) fun d' h => h.sent
    · exact gw.rf.sent
  · split
    · split
      · exact gw.then (gw.rec (by omega)) fun d' h => h.sent
      · exact gw.rf.sent
    · exact gw.rf.sent
theorem gw.del {d : DS} {m : Nat} {e : R6} (hm : m < 4) : gw d (ddel d m e).1 := by
  unfold ddel
  split
  · split
    · exact gw.rf
    · exact gw.bank
  · split
    · exact gw.rf
    · unfold dmach
      split
      · exact gw.answ hm
      · split
        · exact gw.rec (by omega)
        · exact gw.rf
theorem gw.wakes {d : DS} {m : Nat} (hm : m < 4) : gw d (dwakes d m).1 := by
  have s : gw d (dset d 10 m 1) := gw.eq rfl
  unfold dwakes
  split
  · exact s
  · split
    · exact s.rev hm
    · split
      · exact s.paid hm
      · split
        · exact s.rest hm
        · exact s
/-! the calls: what is kept, and that no MESSAGE goes -/
section DH
variable {d : DS} {n : Nat}
def keeps (n : Nat) (d d' : DS) : Prop := Iv (n + 1) d' ∧ gw d d'
theorem keeps.rf (h : Iv n d) : keeps n d d := ⟨h.suc, gw.rf⟩
theorem k_card (h : Iv n d) (m a : Int32) : keeps n d (s_card d m a).1 := by
  unfold s_card
  split
  · next z =>
    obtain ⟨M, hM, rfl⟩ := in_nat 3 (by decide) z.1 z.2.1
    obtain ⟨A, hA, rfl⟩ := in_nat 199 (by decide) z.2.2.1 z.2.2.2
    rw [z_nat (by omega), z_nat (by omega)]
    refine ⟨h.card (by omega) (by omega), gw.eq ?_⟩
    show (dcard d M A).1.2 5 = _
    unfold dcard
    split <;> rfl
  · exact keeps.rf h
theorem k_pin (h : Iv n d) (m p : Int32) : keeps n d (s_pin d m p).1 := by
  unfold s_pin
  split
  · next z =>
    obtain ⟨M, hM, rfl⟩ := in_nat 3 (by decide) z.1 z.2
    rw [z_nat (by omega)]
    refine ⟨h.pin (by omega), gw.eq ?_⟩
    unfold dpin
    split
    · split
      · rfl
      · split <;> rfl
    · rfl
  · exact keeps.rf h
theorem k_ask (h : Iv n d) (hn : n ≤ 512) (m v : Int32) : keeps n d (s_ask d m v).1 := by
  unfold s_ask
  split
  · next z =>
    obtain ⟨M, hM, rfl⟩ := in_nat 3 (by decide) z.1 z.2.1
    obtain ⟨V, hV, rfl⟩ := in_nat 1000 (by decide) (Int32.le_trans (by decide) z.2.2.1) z.2.2.2
    have hV5 : 5 ≤ V := (z_le (a := 5) (by decide) (by omega)).mp z.2.2.1
    rw [z_nat (by omega), z_nat (by omega)]
    refine ⟨h.ask (by omega) (by omega) hV5 hV, ?_⟩
    unfold dask
    split
    · split
      · split
        · exact gw.rec (by omega)
        · exact gw.sent (d' := dset (drec d M (1, Int32.ofNat M, dlast d M + 1, d.1 11 M, Int32.ofNat V, 0)) 10 M 4) (gw.rec (w := M) (by omega))
      · exact gw.rf
    · exact gw.rf
  · exact keeps.rf h
theorem k_cancel (h : Iv n d) (hn : n ≤ 512) (m : Int32) : keeps n d (s_cancel d m).1 := by
  unfold s_cancel
  split
  · next z =>
    obtain ⟨M, hM, rfl⟩ := in_nat 3 (by decide) z.1 z.2
    rw [z_nat (by omega)]
    refine ⟨h.cancel (by omega) (by omega), ?_⟩
    show gw d (dcancel d M).1
    unfold dcancel
    split
    · exact gw.rf
    · split
      · exact gw.late (by omega)
      · exact gw.eq rfl
  · exact keeps.rf h
theorem k_again (h : Iv n d) (hn : n ≤ 512) (m : Int32) : keeps n d (s_again d m).1 := by
  unfold s_again
  split
  · next z =>
    obtain ⟨M, hM, rfl⟩ := in_nat 3 (by decide) z.1 z.2
    rw [z_nat (by omega)]
    refine ⟨h.again (by omega) (by omega), ?_⟩
    unfold dagain
    split
    · exact gw.rf
    · exact dagS_grow _ _ _
  · exact keeps.rf h
theorem k_settle (h : Iv n d) (hn : n ≤ 512) (m : Int32) : keeps n d (s_settle d m).1 := by
  unfold s_settle
  split
  · next z =>
    obtain ⟨M, hM, rfl⟩ := in_nat 3 (by decide) z.1 z.2
    rw [z_nat (by omega)]
    refine ⟨h.settle (by omega) (by omega), ?_⟩
    unfold dsettle
    split
    · exact gw.rf
    · exact gw.rf.sent
  · exact keeps.rf h
theorem k_jam (h : Iv n d) (m j : Int32) : keeps n d (s_jam d m j).1 := by
  unfold s_jam
  split
  · next z =>
    obtain ⟨M, hM, rfl⟩ := in_nat 3 (by decide) z.1 z.2.1
    obtain ⟨J, hJ, rfl⟩ := in_nat 41 (by decide) z.2.2.1 z.2.2.2
    rw [z_nat (by omega), z_nat (by omega)]
    exact ⟨h.jam (by omega) hJ, gw.eq rfl⟩
  · exact keeps.rf h
theorem k_load (h : Iv n d) (m c N : Int32) : keeps n d (s_load d m c N).1 := by
  unfold s_load
  split
  · next z =>
    obtain ⟨M, hM, rfl⟩ := in_nat 3 (by decide) z.1 z.2.1
    obtain ⟨C, hC, rfl⟩ := in_nat 3 (by decide) z.2.2.1 z.2.2.2.1
    obtain ⟨K, hK, rfl⟩ := in_nat 100 (by decide) (Int32.le_trans (by decide) z.2.2.2.2.1) z.2.2.2.2.2
    rw [z_nat (by omega), z_nat (by omega)]
    refine ⟨h.load (by omega) (by omega) hK, gw.eq ?_⟩
    unfold dload
    split <;> rfl
  · exact keeps.rf h
theorem k_power (h : Iv n d) (m k b : Int32) : keeps n d (s_power d m k b).1 := by
  unfold s_power
  split
  · next z =>
    obtain ⟨M, hM, rfl⟩ := in_nat 4 (by decide) z.1 z.2.1
    obtain ⟨B, hB, rfl⟩ := in_nat 17 (by decide) z.2.2.2.2.1 z.2.2.2.2.2
    rw [z_nat (by omega)]
    exact ⟨h.power hB, gw.eq rfl⟩
  · exact keeps.rf h
theorem k_on (h : Iv n d) (hn : n ≤ 512) (w : Int32) : keeps n d (s_on d w).1 := by
  unfold s_on
  split
  · next z =>
    obtain ⟨M, hM, rfl⟩ := in_nat 4 (by decide) z.1 z.2
    rw [z_nat (by omega)]
    refine ⟨h.on (by omega) (by omega), ?_⟩
    unfold don
    split
    · exact gw.eq rfl
    · exact gw.wakes (by omega)
  · exact keeps.rf h
theorem k_told (h : Iv n d) (m c : Int32) : keeps n d (s_told d m c).1 := by
  unfold s_told
  split <;> exact keeps.rf h
theorem k_balance (h : Iv n d) (a : Int32) : keeps n d (s_balance d a).1 := by
  unfold s_balance
  split <;> exact keeps.rf h
theorem k_taken (h : Iv n d) (a : Int32) : keeps n d (s_taken d a).1 := by
  unfold s_taken
  split <;> exact keeps.rf h
theorem k_count (h : Iv n d) (c : Int32) : keeps n d (s_count d c).1 := by
  unfold s_count
  split <;> exact keeps.rf h
noncomputable def s_mix (d : DS) (m v c : Int32) : DS × Int32 × Int32 := if 0 ≤ m ∧ m ≤ 3 ∧ 0 ≤ v ∧ v ≤ 1000 ∧ 0 ≤ c ∧ c ≤ 3 then (d, 0, dmixv d m.toNatClampNeg v.toNatClampNeg c.toNatClampNeg) else (d, 1, 0)
theorem k_mix (h : Iv n d) (m v c : Int32) : keeps n d (s_mix d m v c).1 := by
  unfold s_mix
  split <;> exact keeps.rf h
noncomputable def msg (d : DS) (k : Int32) : R6 := (d.2 5).getD k.toNatClampNeg (0, 0, 0, 0, 0, 0)
theorem msg_at {K : Nat} (hK : K < (d.2 5).length) (hl : (d.2 5).length ≤ 3000) : msg d (Int32.ofNat K) = (d.2 5)[K] := by
  unfold msg
  rw [z_nat (by omega)]
  simp [hK]
noncomputable def s_deliver (d : DS) (k : Int32) : DS × Int32 × Int32 := if 0 ≤ k ∧ k < Int32.ofNat (d.2 5).length then ddeliver d (msg d k).2.1.toNatClampNeg (msg d k) else (d, 1, 0)
theorem k_deliver (h : Iv n d) (hn : n ≤ 512) (hl : (d.2 5).length ≤ 3000) (k : Int32) : keeps n d (s_deliver d k).1 := by
  unfold s_deliver
  split
  · next z =>
    obtain ⟨K, hK1, rfl⟩ := z_of z.1
    have hK : K < (d.2 5).length := (z_lt hK1 (by omega)).mp z.2
    rw [msg_at hK hl]
    have hm := h.1.2.2.2.1 _ (List.getElem_mem hK)
    obtain ⟨⟨M, hM, eM⟩, -⟩ := okM.mach hm
    rw [eM, z_nat (by omega)]
    exact ⟨h.deliver hM hm (by omega), gw.del hM⟩
  · exact keeps.rf h
noncomputable def mbytes (x : R6) : List Nat := lay6 x.1.toNatClampNeg x.2.2.2.1.toNatClampNeg x.2.2.2.2.1.toNatClampNeg x.2.2.1.toNatClampNeg x.2.2.2.2.2.toNatClampNeg x.2.1.toNatClampNeg
noncomputable def s_byteAt (d : DS) (k i : Int32) : DS × Int32 × Int32 := if 0 ≤ k ∧ k < Int32.ofNat (d.2 5).length ∧ 0 ≤ i then (d, 0, byteOf (mbytes (msg d k)) i.toNatClampNeg) else (d, 1, 0)
theorem k_byteAt (h : Iv n d) (k i : Int32) : keeps n d (s_byteAt d k i).1 := by
  unfold s_byteAt
  split <;> exact keeps.rf h
variable {S : XH} {P : XP} {g : Nat → Nat → Int32}
theorem L_mix {m v c : Int32} (hK : KS d S) (hi : Inv n d) (hout : outA S) (h : lO (s_mix d m v c).1 (s_mix d m v c).2.1 (s_mix d m v c).2.2 S P) : Y_L_mix 3 18 [xv_r 0 0, xv_i m, xv_i v, xv_i c, xv_r 30 0] S P := by
  refine l_mix hK (ntk hi) hout (fun z => ?_) (fun M V C hM hV hC e1 e2 e3 => ?_)
  · rw [show s_mix d m v c = (d, 1, 0) from if_neg z] at h
    exact h
  · subst e1
    subst e2
    subst e3
    have e : s_mix d (Int32.ofNat M) (Int32.ofNat V) (Int32.ofNat C) = (d, 0, dmixv d M V C) := by
      unfold s_mix
      rw [if_pos ⟨i0 (by omega), ile (b := 3) (by decide) (by omega), i0 (by omega), ile (b := 1000) (by decide) hV, i0 (by omega), ile (b := 3) (by decide) (by omega)⟩, z_nat (by omega), z_nat (by omega), z_nat (by omega)]
    rw [e] at h
    exact h
theorem R_mix {m v c : Int32} (hR : RM g S) (hD : MD d g) (hX : RX S) (hi : Inv n d) (h : mC (s_mix d m v c).1 (s_mix d m v c).2.1 S (fun S' => P (.inl (some (xv_i (s_mix d m v c).2.2))) S')) : Y_R_mix 0 0 [xv_r 15 0, xv_i m, xv_i v, xv_i c] S P := by
  refine r_mix hR hD hX (ntk hi) (fun z => ?_) (fun M V C hM hV hC e1 e2 e3 => ?_)
  · rw [show s_mix d m v c = (d, 1, 0) from if_neg (fun y => z ⟨y.1, y.2.1, y.2.2.2.2.1, y.2.2.2.2.2, y.2.2.1, y.2.2.2.1⟩)] at h
    exact h
  · subst e1
    subst e2
    subst e3
    have e : s_mix d (Int32.ofNat M) (Int32.ofNat V) (Int32.ofNat C) = (d, 0, dmixv d M V C) := by
      unfold s_mix
      rw [if_pos ⟨i0 (by omega), ile (b := 3) (by decide) (by omega), i0 (by omega), ile (b := 1000) (by decide) hV, i0 (by omega), ile (b := 3) (by decide) (by omega)⟩, z_nat (by omega), z_nat (by omega), z_nat (by omega)]
    rw [e] at h
    exact h
theorem L_deliver {k : Int32} (hK : KS d S) (hro : ro S) (hi : Inv n d) (hn : n ≤ 512) (h5 : (d.2 5).length ≤ 3000) (hout : outA S) (h : lO (s_deliver d k).1 (s_deliver d k).2.1 (s_deliver d k).2.2 S P) : Y_L_deliver 13 10265 [xv_r 0 0, xv_i k, xv_r 30 0] S P := by
  refine l_deliver hK hro hi hn h5 hout (fun z => ?_) (fun K M hk hM e1 e2 => ?_)
  · rw [show s_deliver d k = (d, 1, 0) from if_neg z] at h
    exact h
  · subst e2
    have e : s_deliver d (Int32.ofNat K) = ddeliver d M (d.2 5)[K] := by
      unfold s_deliver
      rw [if_pos ⟨i0 (by omega), (z_lt (by omega) (by omega)).mpr hk⟩, msg_at hk h5, e1, z_nat (by omega)]
    rw [e] at h
    exact h
theorem R_deliver {k : Int32} (hR : RM g S) (hD : MD d g) (hX : RX S) (hro : ro S) (hi : Inv n d) (hn : n ≤ 512) (h5 : (d.2 5).length ≤ 3000) (h : mC (s_deliver d k).1 (s_deliver d k).2.1 S (fun S' => P (.inl (some (xv_i (s_deliver d k).2.2))) S')) : Y_R_deliver 3 18 [xv_r 15 0, xv_i k] S P := by
  refine r_deliver hR hD hX (ntk hi) (fun M hM => (hi.1 M hM).1.2.2.2.1) (hro.2.2.2.2.1 1 (by decide)) (wts hi hn) (fun M hM => by have := (len_inv hi hn hM).1; unfold jcap; split <;> omega) (by have := hi.2.2.1; omega) (fun x hx => (okM.mach (hi.2.2.2.1 x hx)).1) (fun z => ?_) (fun K M hk hM e1 e2 => ?_)
  · rw [show s_deliver d k = (d, 1, 0) from if_neg z] at h
    exact h
  · subst e2
    have e : s_deliver d (Int32.ofNat K) = ddeliver d M (d.2 5)[K] := by
      unfold s_deliver
      rw [if_pos ⟨i0 (by omega), (z_lt (by omega) (by omega)).mpr hk⟩, msg_at hk h5, e1, z_nat (by omega)]
    rw [e] at h
    exact h
theorem R_byteAt {k i : Int32} (hR : RM g S) (hD : MD d g) (hX : RX S) (hi : Inv n d) (h5 : (d.2 5).length ≤ 3000) (h : mC (s_byteAt d k i).1 (s_byteAt d k i).2.1 S (fun S' => P (.inl (some (xv_i (s_byteAt d k i).2.2))) S')) : Y_R_byteAt 0 0 [xv_r 15 0, xv_i k, xv_i i] S P := by
  refine r_byteAt hR hD hX (fun x hx => ?_) (fun z => ?_) (fun K I ty mach tr acc amt ans hk e1 e2 e3 e4 q1 q2 q3 q4 q5 q6 => ?_)
  · obtain ⟨ty, M, t, a, v, r, e1, e2, e3, e4, e5, e6, e7, -⟩ := hi.2.2.2.1 x hx
    exact ⟨ty, M, t, a, v, r, e1, by omega, by omega, by omega, by omega, by omega, by omega⟩
  · rw [show s_byteAt d k i = (d, 1, 0) from if_neg z] at h
    exact h
  · subst e1
    subst e2
    have e : s_byteAt d (Int32.ofNat K) (Int32.ofNat I) = (d, 0, byteOf (lay6 ty acc amt tr ans mach) I) := by
      unfold s_byteAt mbytes
      rw [if_pos ⟨i0 (by omega), (z_lt (by omega) (by omega)).mpr hk, i0 e3⟩, msg_at hk h5, e4, z_nat e3]
      dsimp only
      rw [z_nat (by omega), z_nat (by omega), z_nat (by omega), z_nat (by omega), z_nat (by omega), z_nat (by omega)]
    rw [e] at h
    exact h
end DH
