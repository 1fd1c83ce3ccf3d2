/-! every call, as a step of the state -/
theorem i0 {M : Nat} (h : M < 2147483648) : (0 : Int32) ≤ Int32.ofNat M := (z_le (a := 0) (by decide) h).mpr (Nat.zero_le _)
theorem ile {M b : Nat} (hb : b < 2147483648) (h : M ≤ b) : Int32.ofNat M ≤ Int32.ofNat b := (z_le (by omega) hb).mpr h
theorem ntk {d : DS} {n : Nat} (hi : Inv n d) : ∀ M, M < 4 → ntok (d.1 13) M := fun M hM => (hi.1 M hM).1.2.2.1
theorem wts {d : DS} {n : Nat} (hi : Inv n d) (hn : n ≤ 512) : ∀ M, M < 4 → d.1 10 M = 4 → Waits d M := by
  intro M hM h4
  obtain ⟨f1, -, -, -, -, -⟩ := ((hi.1 M hM).2.1 h4).1
  have hl := (len_inv hi hn hM).1
  obtain ⟨e, e1, ⟨v, v1, v2, v3⟩, a, a1, a2⟩ := Jok.ask (hi.1 M hM).1.1 (by omega) (asks (d.2 M)) f1 (Nat.le_refl _)
  exact ⟨e, v, a, e1, v2, v3, a1, a2⟩
theorem ask1 {d : DS} {n : Nat} (hi : Inv n d) (hn : n ≤ 512) : ∀ M, M < 4 → dlast d M ≠ 0 → fR (d.2 M) 1 (Int32.ofNat M) (dlast d M) ≠ none := by
  intro M hM h0
  have hl := (len_inv hi hn hM).1
  have ha : 1 ≤ asks (d.2 M) := by
    by_cases z : asks (d.2 M) = 0
    · exact (h0 (by show Int32.ofNat (asks (d.2 M)) = 0; rw [z]; rfl)).elim
    · omega
  obtain ⟨e, e1, -⟩ := Jok.ask (hi.1 M hM).1.1 (by omega) (asks (d.2 M)) ha (Nat.le_refl _)
  rw [show fR (d.2 M) 1 (Int32.ofNat M) (dlast d M) = some e from e1]
  simp
section DG
variable {S : XH} {P : XP} {d : DS} {g : Nat → Nat → Int32} {n : Nat}
noncomputable def s_card (d : DS) (m a : Int32) : DS × Int32 × Int32 := if 0 ≤ m ∧ m ≤ 3 ∧ 0 ≤ a ∧ a ≤ 199 then ((dcard d m.toNatClampNeg a.toNatClampNeg).1, (dcard d m.toNatClampNeg a.toNatClampNeg).2, 0) else (d, 1, 0)
theorem s_card_ok {M A : Nat}  (hM : M < 4) (hA : A < 200) : s_card d (Int32.ofNat M) (Int32.ofNat A) = ((dcard d M A).1, (dcard d M A).2, 0) := by
  unfold s_card
  rw [if_pos ⟨i0 (by omega), ile (b := 3) (by decide) (by omega), i0 (by omega), ile (b := 199) (by decide) (by omega)⟩, z_nat (show M < 2147483648 by omega), z_nat (show A < 2147483648 by omega)]
theorem L_card {m a : Int32} (hK : KS d S) (h : lV (s_card d m a).1 (s_card d m a).2.1 S P) : Y_L_card 3 18 [xv_r 0 0, xv_i m, xv_i a] S P := by
  refine l_card hK   (fun z => by
    rw [show s_card d m a = (d, 1, 0) from if_neg z] at h
    exact h) (fun M A hM hA e0 e1 => by
    subst e0
    subst e1
    rw [s_card_ok hM hA] at h
    exact h)
theorem R_card {m a : Int32} (hR : RM g S) (hD : MD d g) (hX : RX S) (h : mC (s_card d m a).1 (s_card d m a).2.1 S (fun S' => P (.inl none) S')) : Y_R_card 0 0 [xv_r 15 0, xv_i m, xv_i a] S P := by
  refine r_card hR hD hX  (fun z => by
    rw [show s_card d m a = (d, 1, 0) from if_neg z] at h
    exact h) (fun M A hM hA e0 e1 => by
    subst e0
    subst e1
    rw [s_card_ok hM hA] at h
    exact h)
noncomputable def s_pin (d : DS) (m p : Int32) : DS × Int32 × Int32 := if 0 ≤ m ∧ m ≤ 3 then dpin d m.toNatClampNeg p else (d, 1, 0)
theorem s_pin_ok {M : Nat} {p : Int32} (hM : M < 4) : s_pin d (Int32.ofNat M) p = dpin d M p := by
  unfold s_pin
  rw [if_pos ⟨i0 (by omega), ile (b := 3) (by decide) (by omega)⟩, z_nat (show M < 2147483648 by omega)]
theorem L_pin {m p : Int32} (hK : KS d S) (hout : outA S) (h : lO (s_pin d m p).1 (s_pin d m p).2.1 (s_pin d m p).2.2 S P) : Y_L_pin 3 18 [xv_r 0 0, xv_i m, xv_i p, xv_r 30 0] S P := by
  refine l_pin hK  hout (fun z => by
    rw [show s_pin d m p = (d, 1, 0) from if_neg z] at h
    exact h) (fun M hM e0 => by
    subst e0
    rw [s_pin_ok hM] at h
    exact h)
theorem R_pin {m p : Int32} (hR : RM g S) (hD : MD d g) (hX : RX S) (h : mC (s_pin d m p).1 (s_pin d m p).2.1 S (fun S' => P (.inl (some (xv_i (s_pin d m p).2.2))) S')) : Y_R_pin 0 0 [xv_r 15 0, xv_i m, xv_i p] S P := by
  refine r_pin hR hD hX  (fun z => by
    rw [show s_pin d m p = (d, 1, 0) from if_neg z] at h
    exact h) (fun M hM e0 => by
    subst e0
    rw [s_pin_ok hM] at h
    exact h)
noncomputable def s_ask (d : DS) (m v : Int32) : DS × Int32 × Int32 := if 0 ≤ m ∧ m ≤ 3 ∧ 5 ≤ v ∧ v ≤ 1000 then dask d m.toNatClampNeg v.toNatClampNeg else (d, 1, 0)
theorem s_ask_ok {M V : Nat}  (hM : M < 4) (hV5 : 5 ≤ V) (hV : V ≤ 1000) : s_ask d (Int32.ofNat M) (Int32.ofNat V) = dask d M V := by
  unfold s_ask
  rw [if_pos ⟨i0 (by omega), ile (b := 3) (by decide) (by omega), (z_le (a := 5) (by decide) (by omega)).mpr hV5, ile (b := 1000) (by decide) (by omega)⟩, z_nat (show M < 2147483648 by omega), z_nat (show V < 2147483648 by omega)]
theorem L_ask {m v : Int32} (hK : KS d S) (hro : ro S) (hi : Inv n d) (hn : n ≤ 512) (h5 : (d.2 5).length ≤ 3000) (hout : outA S) (h : lO (s_ask d m v).1 (s_ask d m v).2.1 (s_ask d m v).2.2 S P) : Y_L_ask 8 7000 [xv_r 0 0, xv_i m, xv_i v, xv_r 30 0] S P := by
  refine l_ask hK hro hi hn h5 hout (fun z => by
    rw [show s_ask d m v = (d, 1, 0) from if_neg z] at h
    exact h) (fun M V hM hV5 hV e0 e1 => by
    subst e0
    subst e1
    rw [s_ask_ok hM hV5 hV] at h
    exact h)
theorem R_ask {m v : Int32} (hR : RM g S) (hD : MD d g) (hX : RX S) (hi : Inv n d) (h : mC (s_ask d m v).1 (s_ask d m v).2.1 S (fun S' => P (.inl (some (xv_i (s_ask d m v).2.2))) S')) : Y_R_ask 1 6 [xv_r 15 0, xv_i m, xv_i v] S P := by
  refine r_ask hR hD hX (ntk hi) (fun z => by
    rw [show s_ask d m v = (d, 1, 0) from if_neg z] at h
    exact h) (fun M V hM hV5 hV e0 e1 => by
    subst e0
    subst e1
    rw [s_ask_ok hM hV5 hV] at h
    exact h)
noncomputable def s_cancel (d : DS) (m : Int32) : DS × Int32 × Int32 := if 0 ≤ m ∧ m ≤ 3 then ((dcancel d m.toNatClampNeg).1, (dcancel d m.toNatClampNeg).2, 0) else (d, 1, 0)
theorem s_cancel_ok {M : Nat}  (hM : M < 4) : s_cancel d (Int32.ofNat M) = ((dcancel d M).1, (dcancel d M).2, 0) := by
  unfold s_cancel
  rw [if_pos ⟨i0 (by omega), ile (b := 3) (by decide) (by omega)⟩, z_nat (show M < 2147483648 by omega)]
theorem L_cancel {m : Int32} (hK : KS d S) (hro : ro S) (hi : Inv n d) (hn : n ≤ 512) (h5 : (d.2 5).length ≤ 3000) (h : lV (s_cancel d m).1 (s_cancel d m).2.1 S P) : Y_L_cancel 8 7000 [xv_r 0 0, xv_i m] S P := by
  refine l_cancel hK hro hi hn h5  (fun z => by
    rw [show s_cancel d m = (d, 1, 0) from if_neg z] at h
    exact h) (fun M hM e0 => by
    subst e0
    rw [s_cancel_ok hM] at h
    exact h)
theorem R_cancel {m : Int32} (hR : RM g S) (hD : MD d g) (hX : RX S) (hi : Inv n d) (hn : n ≤ 512) (h : mC (s_cancel d m).1 (s_cancel d m).2.1 S (fun S' => P (.inl none) S')) : Y_R_cancel 1 6 [xv_r 15 0, xv_i m] S P := by
  refine r_cancel hR hD hX (wts hi hn) (fun M hM => by have := (len_inv hi hn hM).1; unfold jcap; split <;> omega) (fun z => by
    rw [show s_cancel d m = (d, 1, 0) from if_neg z] at h
    exact h) (fun M hM e0 => by
    subst e0
    rw [s_cancel_ok hM] at h
    exact h)
noncomputable def s_again (d : DS) (m : Int32) : DS × Int32 × Int32 := if 0 ≤ m ∧ m ≤ 3 then dagain d m.toNatClampNeg else (d, 1, 0)
theorem s_again_ok {M : Nat}  (hM : M < 4) : s_again d (Int32.ofNat M) = dagain d M := by
  unfold s_again
  rw [if_pos ⟨i0 (by omega), ile (b := 3) (by decide) (by omega)⟩, z_nat (show M < 2147483648 by omega)]
theorem L_again {m : Int32} {mc ms : Nat} (hmc : ∀ M, M < 4 → m = Int32.ofNat M → 2 + (nK ((dagS M d (voidsOf (d.2 M) (Int32.ofNat M))).2 5).length - nK (d.2 5).length) ≤ mc) (hms : ∀ M, M < 4 → m = Int32.ofNat M → 12 + (nS ((dagS M d (voidsOf (d.2 M) (Int32.ofNat M))).2 5).length - nS (d.2 5).length) ≤ ms) (hmc' : 2 ≤ mc) (hms' : 12 ≤ ms) (hK : KS d S) (hro : ro S) (h5 : (d.2 5).length ≤ 3000) (hout : outA S) (h : lO (s_again d m).1 (s_again d m).2.1 (s_again d m).2.2 S P) : Y_L_again mc ms [xv_r 0 0, xv_i m, xv_r 30 0] S P := by
  refine l_again hK hro h5 hmc hms hmc' hms' hout (fun z => by
    rw [show s_again d m = (d, 1, 0) from if_neg z] at h
    exact h) (fun M hM e0 => by
    subst e0
    rw [s_again_ok hM] at h
    exact h)
theorem R_again {m : Int32} (hR : RM g S) (hD : MD d g) (hX : RX S) (h : mC (s_again d m).1 (s_again d m).2.1 S (fun S' => P (.inl (some (xv_i (s_again d m).2.2))) S')) : Y_R_again 0 0 [xv_r 15 0, xv_i m] S P := by
  refine r_again hR hD hX  (fun z => by
    rw [show s_again d m = (d, 1, 0) from if_neg z] at h
    exact h) (fun M hM e0 => by
    subst e0
    rw [s_again_ok hM] at h
    exact h)
noncomputable def s_settle (d : DS) (m : Int32) : DS × Int32 × Int32 := if 0 ≤ m ∧ m ≤ 3 then dsettle d m.toNatClampNeg else (d, 1, 0)
theorem s_settle_ok {M : Nat}  (hM : M < 4) : s_settle d (Int32.ofNat M) = dsettle d M := by
  unfold s_settle
  rw [if_pos ⟨i0 (by omega), ile (b := 3) (by decide) (by omega)⟩, z_nat (show M < 2147483648 by omega)]
theorem L_settle {m : Int32} (hK : KS d S) (hro : ro S) (h5 : (d.2 5).length ≤ 3000) (hout : outA S) (h : lO (s_settle d m).1 (s_settle d m).2.1 (s_settle d m).2.2 S P) : Y_L_settle 8 7000 [xv_r 0 0, xv_i m, xv_r 30 0] S P := by
  refine l_settle hK hro h5 hout (fun z => by
    rw [show s_settle d m = (d, 1, 0) from if_neg z] at h
    exact h) (fun M hM e0 => by
    subst e0
    rw [s_settle_ok hM] at h
    exact h)
theorem R_settle {m : Int32} (hR : RM g S) (hD : MD d g) (hX : RX S) (h : mC (s_settle d m).1 (s_settle d m).2.1 S (fun S' => P (.inl (some (xv_i (s_settle d m).2.2))) S')) : Y_R_settle 0 0 [xv_r 15 0, xv_i m] S P := by
  refine r_settle hR hD hX  (fun z => by
    rw [show s_settle d m = (d, 1, 0) from if_neg z] at h
    exact h) (fun M hM e0 => by
    subst e0
    rw [s_settle_ok hM] at h
    exact h)
noncomputable def s_jam (d : DS) (m j : Int32) : DS × Int32 × Int32 := if 0 ≤ m ∧ m ≤ 3 ∧ 0 ≤ j ∧ j ≤ 41 then (dset d 17 m.toNatClampNeg (Int32.ofNat j.toNatClampNeg), 0, 0) else (d, 1, 0)
theorem s_jam_ok {M J : Nat}  (hM : M < 4) (hJ : J ≤ 41) : s_jam d (Int32.ofNat M) (Int32.ofNat J) = (dset d 17 M (Int32.ofNat J), 0, 0) := by
  unfold s_jam
  rw [if_pos ⟨i0 (by omega), ile (b := 3) (by decide) (by omega), i0 (by omega), ile (b := 41) (by decide) (by omega)⟩, z_nat (show M < 2147483648 by omega), z_nat (show J < 2147483648 by omega)]
theorem L_jam {m j : Int32} (hK : KS d S) (h : lV (s_jam d m j).1 (s_jam d m j).2.1 S P) : Y_L_jam 3 18 [xv_r 0 0, xv_i m, xv_i j] S P := by
  refine l_jam hK   (fun z => by
    rw [show s_jam d m j = (d, 1, 0) from if_neg z] at h
    exact h) (fun M J hM hJ e0 e1 => by
    subst e0
    subst e1
    rw [s_jam_ok hM hJ] at h
    exact h)
theorem R_jam {m j : Int32} (hR : RM g S) (hD : MD d g) (hX : RX S) (h : mC (s_jam d m j).1 (s_jam d m j).2.1 S (fun S' => P (.inl none) S')) : Y_R_jam 0 0 [xv_r 15 0, xv_i m, xv_i j] S P := by
  refine r_jam hR hD hX  (fun z => by
    rw [show s_jam d m j = (d, 1, 0) from if_neg z] at h
    exact h) (fun M J hM hJ e0 e1 => by
    subst e0
    subst e1
    rw [s_jam_ok hM hJ] at h
    exact h)
noncomputable def s_load (d : DS) (m c n : Int32) : DS × Int32 × Int32 := if 0 ≤ m ∧ m ≤ 3 ∧ 0 ≤ c ∧ c ≤ 3 ∧ 1 ≤ n ∧ n ≤ 100 then dload d m.toNatClampNeg c.toNatClampNeg n else (d, 1, 0)
theorem s_load_ok {M C : Nat} {n : Int32} (hM : M < 4) (hC : C < 4) (hn1 : 1 ≤ n) (hn2 : n ≤ 100) : s_load d (Int32.ofNat M) (Int32.ofNat C) n = dload d M C n := by
  unfold s_load
  rw [if_pos ⟨i0 (by omega), ile (b := 3) (by decide) (by omega), i0 (by omega), ile (b := 3) (by decide) (by omega), hn1, hn2⟩, z_nat (show M < 2147483648 by omega), z_nat (show C < 2147483648 by omega)]
theorem L_load {m c n : Int32} (hK : KS d S) (hout : outA S) (h : lO (s_load d m c n).1 (s_load d m c n).2.1 (s_load d m c n).2.2 S P) : Y_L_load 3 18 [xv_r 0 0, xv_i m, xv_i c, xv_i n, xv_r 30 0] S P := by
  refine l_load hK  hout (fun z => by
    rw [show s_load d m c n = (d, 1, 0) from if_neg z] at h
    exact h) (fun M C hM hC e0 e1 hn1 hn2 => by
    subst e0
    subst e1
    rw [s_load_ok hM hC hn1 hn2] at h
    exact h)
theorem R_load {m c n : Int32} (hR : RM g S) (hD : MD d g) (hX : RX S) (h : mC (s_load d m c n).1 (s_load d m c n).2.1 S (fun S' => P (.inl (some (xv_i (s_load d m c n).2.2))) S')) : Y_R_load 0 0 [xv_r 15 0, xv_i m, xv_i c, xv_i n] S P := by
  refine r_load hR hD hX  (fun z => by
    rw [show s_load d m c n = (d, 1, 0) from if_neg z] at h
    exact h) (fun M C hM hC e0 e1 hn1 hn2 => by
    subst e0
    subst e1
    rw [s_load_ok hM hC hn1 hn2] at h
    exact h)
noncomputable def s_power (d : DS) (m k b : Int32) : DS × Int32 × Int32 := if 0 ≤ m ∧ m ≤ 4 ∧ 0 ≤ k ∧ k ≤ 50 ∧ 0 ≤ b ∧ b ≤ 17 then (dset (dset d 7 m.toNatClampNeg k) 8 m.toNatClampNeg b, 0, 0) else (d, 1, 0)
theorem s_power_ok {M : Nat} {k b : Int32} (hM : M < 5) (hk1 : 0 ≤ k) (hk2 : k ≤ 50) (hb1 : 0 ≤ b) (hb2 : b ≤ 17) : s_power d (Int32.ofNat M) k b = (dset (dset d 7 M k) 8 M b, 0, 0) := by
  unfold s_power
  rw [if_pos ⟨i0 (by omega), ile (b := 4) (by decide) (by omega), hk1, hk2, hb1, hb2⟩, z_nat (show M < 2147483648 by omega)]
theorem L_power {m k b : Int32} (hK : KS d S) (h : lV (s_power d m k b).1 (s_power d m k b).2.1 S P) : Y_L_power 3 18 [xv_r 0 0, xv_i m, xv_i k, xv_i b] S P := by
  refine l_power hK   (fun z => by
    rw [show s_power d m k b = (d, 1, 0) from if_neg z] at h
    exact h) (fun M hM e0 hk1 hk2 hb1 hb2 => by
    subst e0
    rw [s_power_ok hM hk1 hk2 hb1 hb2] at h
    exact h)
theorem R_power {m k b : Int32} (hR : RM g S) (hD : MD d g) (hX : RX S) (h : mC (s_power d m k b).1 (s_power d m k b).2.1 S (fun S' => P (.inl none) S')) : Y_R_power 0 0 [xv_r 15 0, xv_i m, xv_i k, xv_i b] S P := by
  refine r_power hR hD hX  (fun z => by
    rw [show s_power d m k b = (d, 1, 0) from if_neg z] at h
    exact h) (fun M hM e0 hk1 hk2 hb1 hb2 => by
    subst e0
    rw [s_power_ok hM hk1 hk2 hb1 hb2] at h
    exact h)
noncomputable def s_on (d : DS) (w : Int32) : DS × Int32 × Int32 := if 0 ≤ w ∧ w ≤ 4 then don d w.toNatClampNeg else (d, 1, 0)
theorem s_on_ok {M : Nat}  (hM : M < 5) : s_on d (Int32.ofNat M) = don d M := by
  unfold s_on
  rw [if_pos ⟨i0 (by omega), ile (b := 4) (by decide) (by omega)⟩, z_nat (show M < 2147483648 by omega)]
theorem L_on {w : Int32} (hK : KS d S) (hro : ro S) (hi : Inv n d) (hn : n ≤ 512) (h5 : (d.2 5).length ≤ 3000) (hout : outA S) (h : lO (s_on d w).1 (s_on d w).2.1 (s_on d w).2.2 S P) : Y_L_on 810 11803 [xv_r 0 0, xv_i w, xv_r 30 0] S P := by
  refine l_on hK hro hi hn h5 hout (fun z => by
    rw [show s_on d w = (d, 1, 0) from if_neg z] at h
    exact h) (fun M hM e0 => by
    subst e0
    rw [s_on_ok hM] at h
    exact h)
theorem R_on {w : Int32} (hR : RM g S) (hD : MD d g) (hX : RX S) (hi : Inv n d) (hn : n ≤ 512) (h : mC (s_on d w).1 (s_on d w).2.1 S (fun S' => P (.inl (some (xv_i (s_on d w).2.2))) S')) : Y_R_on 2 12 [xv_r 15 0, xv_i w] S P := by
  refine r_on hR hD hX (ask1 hi hn) (fun M hM => by have := (len_inv hi hn hM).1; unfold jcap; split <;> omega) (fun z => by
    rw [show s_on d w = (d, 1, 0) from if_neg z] at h
    exact h) (fun M hM e0 => by
    subst e0
    rw [s_on_ok hM] at h
    exact h)
noncomputable def s_told (d : DS) (m c : Int32) : DS × Int32 × Int32 := if 0 ≤ m ∧ m ≤ 3 ∧ 0 ≤ c ∧ c ≤ 10 then (d, 0, dtold d m.toNatClampNeg c.toNatClampNeg) else (d, 1, 0)
theorem s_told_ok {M C : Nat}  (hM : M < 4) (hC : C ≤ 10) : s_told d (Int32.ofNat M) (Int32.ofNat C) = (d, 0, dtold d M C) := by
  unfold s_told
  rw [if_pos ⟨i0 (by omega), ile (b := 3) (by decide) (by omega), i0 (by omega), ile (b := 10) (by decide) (by omega)⟩, z_nat (show M < 2147483648 by omega), z_nat (show C < 2147483648 by omega)]
theorem L_told {m c : Int32} (hK : KS d S) (hro : ro S) (hout : outA S) (h : lO (s_told d m c).1 (s_told d m c).2.1 (s_told d m c).2.2 S P) : Y_L_told 3 18 [xv_r 0 0, xv_i m, xv_i c, xv_r 30 0] S P := by
  refine l_told hK hro hout (fun z => by
    rw [show s_told d m c = (d, 1, 0) from if_neg z] at h
    exact h) (fun M C hM hC e0 e1 => by
    subst e0
    subst e1
    rw [s_told_ok hM hC] at h
    exact h)
theorem R_told {m c : Int32} (hR : RM g S) (hD : MD d g) (hX : RX S) (h : mC (s_told d m c).1 (s_told d m c).2.1 S (fun S' => P (.inl (some (xv_i (s_told d m c).2.2))) S')) : Y_R_told 0 0 [xv_r 15 0, xv_i m, xv_i c] S P := by
  refine r_told hR hD hX  (fun z => by
    rw [show s_told d m c = (d, 1, 0) from if_neg z] at h
    exact h) (fun M C hM hC e0 e1 => by
    subst e0
    subst e1
    rw [s_told_ok hM hC] at h
    exact h)
noncomputable def s_balance (d : DS) (a : Int32) : DS × Int32 × Int32 := if 0 ≤ a ∧ a ≤ 199 then (d, 0, worthOf (d.2 4) (Int32.ofNat a.toNatClampNeg)) else (d, 1, 0)
theorem s_balance_ok {A : Nat}  (hA : A < 200) : s_balance d (Int32.ofNat A) = (d, 0, worthOf (d.2 4) (Int32.ofNat A)) := by
  unfold s_balance
  rw [if_pos ⟨i0 (by omega), ile (b := 199) (by decide) (by omega)⟩, z_nat (show A < 2147483648 by omega)]
theorem L_balance {a : Int32} (hK : KS d S) (hi : Inv n d) (hout : outA S) (h : lO (s_balance d a).1 (s_balance d a).2.1 (s_balance d a).2.2 S P) : Y_L_balance 3 18 [xv_r 0 0, xv_i a, xv_r 30 0] S P := by
  refine l_balance hK hi.2.1 hout (fun z => by
    rw [show s_balance d a = (d, 1, 0) from if_neg z] at h
    exact h) (fun A hA e0 => by
    subst e0
    rw [s_balance_ok hA] at h
    exact h)
theorem R_balance {a : Int32} (hR : RM g S) (hD : MD d g) (hX : RX S) (h : mC (s_balance d a).1 (s_balance d a).2.1 S (fun S' => P (.inl (some (xv_i (s_balance d a).2.2))) S')) : Y_R_balance 0 0 [xv_r 15 0, xv_i a] S P := by
  refine r_balance hR hD hX  (fun z => by
    rw [show s_balance d a = (d, 1, 0) from if_neg z] at h
    exact h) (fun A hA e0 => by
    subst e0
    rw [s_balance_ok hA] at h
    exact h)
noncomputable def s_taken (d : DS) (a : Int32) : DS × Int32 × Int32 := if 0 ≤ a ∧ a ≤ 199 then (d, 0, d.1 18 a.toNatClampNeg) else (d, 1, 0)
theorem s_taken_ok {A : Nat}  (hA : A < 200) : s_taken d (Int32.ofNat A) = (d, 0, d.1 18 A) := by
  unfold s_taken
  rw [if_pos ⟨i0 (by omega), ile (b := 199) (by decide) (by omega)⟩, z_nat (show A < 2147483648 by omega)]
theorem L_taken {a : Int32} (hK : KS d S) (hout : outA S) (h : lO (s_taken d a).1 (s_taken d a).2.1 (s_taken d a).2.2 S P) : Y_L_taken 3 18 [xv_r 0 0, xv_i a, xv_r 30 0] S P := by
  refine l_taken hK  hout (fun z => by
    rw [show s_taken d a = (d, 1, 0) from if_neg z] at h
    exact h) (fun A hA e0 => by
    subst e0
    rw [s_taken_ok hA] at h
    exact h)
theorem R_taken {a : Int32} (hR : RM g S) (hD : MD d g) (hX : RX S) (h : mC (s_taken d a).1 (s_taken d a).2.1 S (fun S' => P (.inl (some (xv_i (s_taken d a).2.2))) S')) : Y_R_taken 0 0 [xv_r 15 0, xv_i a] S P := by
  refine r_taken hR hD hX  (fun z => by
    rw [show s_taken d a = (d, 1, 0) from if_neg z] at h
    exact h) (fun A hA e0 => by
    subst e0
    rw [s_taken_ok hA] at h
    exact h)
noncomputable def s_count (d : DS) (c : Int32) : DS × Int32 × Int32 := if 0 ≤ c ∧ c ≤ 6 then (d, 0, dcount d c.toNatClampNeg) else (d, 1, 0)
theorem s_count_ok {C : Nat}  (hC : C ≤ 6) : s_count d (Int32.ofNat C) = (d, 0, dcount d C) := by
  unfold s_count
  rw [if_pos ⟨i0 (by omega), ile (b := 6) (by decide) (by omega)⟩, z_nat (show C < 2147483648 by omega)]
theorem L_count {c : Int32} (hK : KS d S) (hi : Iv n d) (hn : n ≤ 600) (hout : outA S) (h : lO (s_count d c).1 (s_count d c).2.1 (s_count d c).2.2 S P) : Y_L_count 3 18 [xv_r 0 0, xv_i c, xv_r 30 0] S P := by
  refine l_count hK hi hn hout (fun z => by
    rw [show s_count d c = (d, 1, 0) from if_neg z] at h
    exact h) (fun C hC e0 => by
    subst e0
    rw [s_count_ok hC] at h
    exact h)
theorem R_count {c : Int32} (hR : RM g S) (hD : MD d g) (hX : RX S) (h : mC (s_count d c).1 (s_count d c).2.1 S (fun S' => P (.inl (some (xv_i (s_count d c).2.2))) S')) : Y_R_count 0 0 [xv_r 15 0, xv_i c] S P := by
  refine r_count hR hD hX  (fun z => by
    rw [show s_count d c = (d, 1, 0) from if_neg z] at h
    exact h) (fun C hC e0 => by
    subst e0
    rw [s_count_ok hC] at h
    exact h)
end DG
