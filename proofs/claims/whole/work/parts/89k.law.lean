/-! the law's loop -/
def LG (L : Nat) (xs : Nat → Int32) (n : Nat) (d : DS) (S : XH) (u w : Nat) : Prop := KS d S ∧ (∃ g, RM g S ∧ MD d g) ∧ RX S ∧ outA S ∧ (∀ k, 48 ≤ k → S k = st_S L xs k) ∧ Iv n d ∧ 820 * (512 - n) + (nK 3000 - nK (d.2 5).length) ≤ u ∧ 11850 * (512 - n) + (nS 3000 - nS (d.2 5).length) ≤ w
def LNx (L : Nat) (xs : Nat → Int32) (n : Nat) : Prop := ∀ d S u w (j5 j6 : Option XV), LG L xs (n + 1) d S u w → x_go b_L_law st_P 1143 [some (xv_r 48 0), some (xv_r 0 0), some (xv_r 15 0), some (xv_r 30 0), some (xv_i (Int32.ofNat (4 * n))), j5, j6] [] S u w
theorem ro_st {L : Nat} {xs : Nat → Int32} {S : XH} (h : ∀ k, 48 ≤ k → S k = st_S L xs k) : ro S := by
  refine ⟨fun i hi => ?_, fun i hi => ?_, fun i hi => ?_, fun i hi => ?_, fun i hi => ?_, ?_, ?_⟩
  · rw [h 49 (by decide)]
    rcases (show i = 0 ∨ i = 1 ∨ i = 2 ∨ i = 3 by omega) with rfl | rfl | rfl | rfl <;> rfl
  · rw [h 50 (by decide)]
    exact if_pos hi
  · rw [h 51 (by decide)]
    exact if_pos hi
  · rw [h 52 (by decide)]
    exact if_pos hi
  · rw [h 53 (by decide)]
    exact if_pos hi
  · rw [h 54 (by decide)]
    exact fun z => by cases z
  · rw [h 55 (by decide)]
    exact fun z => by cases z
theorem sc_in {L n c : Nat} (hn : n < 512) (hi : 4 * n + 4 ≤ L) (hL : L ≤ 2048) (hc : c < 4) : vp_in (Int32.ofNat (4 * n) + Int32.ofNat c) L := by
  rw [z_add]
  exact z_in (by omega) (by omega)
theorem sc_at {n c : Nat} (hn : n < 512) (hc : c < 4) (xs : Nat → Int32) : xs (Int32.ofNat (4 * n) + Int32.ofNat c).toNatClampNeg = xs (4 * n + c) := by
  rw [z_add, z_nat (by omega)]
theorem lg_self (x : Int64) : lg_cmp x x = 0 := by
  unfold lg_cmp
  simp
theorem LG.next {L n : Nat} {xs : Nat → Int32} {d d' : DS} {S S' : XH} {u w u' w' : Nat} (h : LG L xs n d S u w) (hn : n < 512) (hk : keeps n d d') (h1 : KS d' S') (h2 : ∃ g, RM g S' ∧ MD d' g) (h3 : RX S') (h4 : outA S') (h5 : ∀ k, 48 ≤ k → S' k = S k) (hu : u + nK (d.2 5).length ≤ u' + 820 + nK (d'.2 5).length) (hw : w + nS (d.2 5).length ≤ w' + 11850 + nS (d'.2 5).length) : LG L xs (n + 1) d' S' u' w' := by
  obtain ⟨-, ⟨g, -, hD⟩, -, -, h48, -, hu0, hw0⟩ := h
  obtain ⟨g', -, hD'⟩ := id h2
  have c1 : (d.2 5).length ≤ 3000 := hD.2.2.2.2.1
  have c2 : (d'.2 5).length ≤ 3000 := hD'.2.2.2.2.1
  have a1 := nK_mono c1
  have a2 := nK_mono c2
  have a3 := nS_mono c1
  have a4 := nS_mono c2
  refine ⟨h1, h2, h3, h4, fun k hk' => (h5 k hk').trans (h48 k hk'), hk.1, ?_, ?_⟩
  · omega
  · omega
section DI
variable {L n : Nat} {xs : Nat → Int32} {d : DS} {S : XH} {u w : Nat} {P : XP}
theorem pin01 (m p : Int32) : (s_pin d m p).2.2 = 0 ∨ (s_pin d m p).2.2 = 1 := by
  unfold s_pin
  split
  · unfold dpin
    split
    · split
      · exact Or.inr rfl
      · exact Or.inl rfl
    · exact Or.inl rfl
  · exact Or.inl rfl
theorem ag_cap (h : (d.2 5).length ≤ 3000) (m : Int32) : ((s_again d m).1.2 5).length ≤ 3000 := by
  unfold s_again
  split
  · unfold dagain
    split
    · exact h
    · exact dagS_cap _ _ _ h
  · exact h
theorem dagain_on {M : Nat} (h : d.1 10 M ≠ 0) : dagain d M = (dagS M d (voidsOf (d.2 M) (Int32.ofNat M)), 0, Int32.ofNat (voidsOf (d.2 M) (Int32.ofNat M)).length) := if_neg h
/-- again, of a machine that is OFF -/
theorem L_again0 {m : Int32} (hK : KS d S) (hz : ∃ M, M < 4 ∧ m = Int32.ofNat M ∧ d.1 10 M = 0) (hout : outA S) (h : lO (s_again d m).1 (s_again d m).2.1 (s_again d m).2.2 S P) : Y_L_again 2 12 [xv_r 0 0, xv_i m, xv_r 30 0] S P := by
  obtain ⟨M, hM, rfl, h0⟩ := hz
  rw [s_again_ok hM, show dagain d M = (d, 2, 0) from if_pos h0] at h
  obtain ⟨q, s, cp, ls, hR, hA, hc, hF⟩ := id hK
  refine x_go.run mn_L_again 14 ?_
  refine ⟨nl rfl, ⟨_, hR.1⟩, rfl, nl rfl, 2, 12, Nat.le_refl _, Nat.le_refl _, ?_⟩
  refine x_go.run mn_C_again 10 ?_
  refine ⟨nl rfl, ⟨_, hR.1⟩, rfl, nl rfl, 1, 6, by decide, by decide, c_machineAt hR hF (fun z => (z ⟨i0 (by omega), ile (b := 3) (by decide) (by omega)⟩).elim) fun M' hM' e => ?_⟩
  have eM : M' = M := ((z_eq (by omega) (by omega)).mp e).symm
  subst eM
  refine ⟨nl rfl, ⟨_, hR.2.2.2.1 M' hM⟩, rfl, nl rfl, 1, 6, by decide, by decide, ?_⟩
  refine x_go.run mn_M_repeatReversals 4 ?_
  refine ⟨nl rfl, _, _, (hR.2.2.2.1 M' hM), rfl, ?_⟩
  refine ⟨nl rfl, ⟨_, hR.2.2.2.2.1 M' (by omega)⟩, rfl, nl rfl, 0, 0, Nat.zero_le _, Nat.zero_le _, c_ison hR (by omega) (by rw [hA.on hM]; exact on01) ?_⟩
  rw [hA.on hM, if_pos h0]
  refine ⟨nl rfl, rfl, nl rfl, 1, 6, by decide, by decide, c_demand0 hF (nl rfl) (nl rfl) fun nx hn => ?_⟩
  exact ⟨12, [], 15, x_up_self _ _ _ _, nl rfl, rfl, h.thr hout (show ¬ (2 : Int32) = 0 by decide) (hK.exc hn _) (fc.rf.up (Or.inl (by decide)))⟩
end DI
