/-! a machine in the midst of what it does -/
def CX (d : DS) (q : Nat → Nat → Int32) (s : Nat → Nat) (ls : Nat → List R6) (m : Nat) : Prop := CB d q ls ∧ (∀ m', m' < 4 → m' ≠ m → CM d q s ls m') ∧ CK d q ∧ CT d q ∧ s m < 4
def KM (d : DS) (m : Nat) (tr am : Int32) (vs : List R6) (st : Nat) (S : XH) : Prop := ∃ q s cp ls, RC q s cp ls S ∧ CX d q s ls m ∧ capok d cp ∧ RF S ∧ q 3 m = tr ∧ q 4 m = am ∧ ls (6 + m) = vs ∧ s m = st
section CK
variable {q : Nat → Nat → Int32} {s cp : Nat → Nat} {ls : Nat → List R6} {S : XH} {P : XP} {d : DS} {m st : Nat} {tr am : Int32} {vs : List R6}
theorem CX.ca (h : CX d q s ls m) (hM : CM d q s ls m) : CA d q s ls := by
  refine ⟨h.1, fun m' hm' => ?_, h.2.2.1, h.2.2.2.1⟩
  by_cases e : m' = m
  · rw [e]
    exact hM
  · exact h.2.1 m' hm' e
theorem CA.cx (h : CA d q s ls) (hm : m < 4) : CX d q s ls m := ⟨h.1, fun m' hm' _ => h.2.1 m' hm', h.2.2.1, h.2.2.2, (h.2.1 m hm).1⟩
theorem KM.ks (h : KM d m tr am vs st S) (hd : d.1 10 m ≠ 0 → d.1 10 m = Int32.ofNat (st + 1) ∧ tr = dlast d m ∧ vs = voidsOf (d.2 m) (Int32.ofNat m) ∧ (d.1 10 m = 4 → am = amtOf (d.2 m) (Int32.ofNat m) (dlast d m))) : KS d S := by
  obtain ⟨q, s, cp, ls, h1, h2, h3, h4, rfl, rfl, rfl, rfl⟩ := h
  exact ⟨q, s, cp, ls, h1, h2.ca ⟨h2.2.2.2.2, hd⟩, h3, h4⟩
theorem KS.km (h : KS d S) (hm : m < 4) (h0 : d.1 10 m ≠ 0) : ∃ am st, KM d m (dlast d m) am (voidsOf (d.2 m) (Int32.ofNat m)) st S ∧ st < 4 ∧ d.1 10 m = Int32.ofNat (st + 1) ∧ (d.1 10 m = 4 → am = amtOf (d.2 m) (Int32.ofNat m) (dlast d m)) := by
  obtain ⟨q, s, cp, ls, h1, h2, h3, h4⟩ := h
  obtain ⟨a0, a⟩ := h2.2.1 m hm
  obtain ⟨a1, a2, a3, a4⟩ := a h0
  exact ⟨q 4 m, s m, ⟨q, s, cp, ls, h1, h2.cx hm, h3, h4, a2, rfl, a3, rfl⟩, a0, a1, a4⟩
theorem KM.rf (h : KM d m tr am vs st S) : RF S := by
  obtain ⟨q, s, cp, ls, h1, h2, h3, h4, -⟩ := h
  exact h4
/-- a new object of kind 11 -/
theorem KM.new (h : KM d m tr am vs st S) {n : Nat} (hn : S 11 n = none) (c : XC) : KM d m tr am vs st (x_up S 11 n c) := by
  obtain ⟨q, s, cp, ls, h1, h2, h3, h4, h5⟩ := h
  exact ⟨q, s, cp, ls, h1.sub (xsub.rf.new hn), h2, h3, h4.up, h5⟩
theorem c_wr {p mc ms : Nat} {e : R6} (h : KM d m tr am vs st S) (hm : m < 4) (hp : S 11 p = some (.inl (6, eR e))) (hl : (d.2 m).length ≤ 1100) (h54 : rk S) (hmc : 2 ≤ mc) (hms : 1656 ≤ ms)
    (h1 : dfailsb d m = true → kT (drec d m e) S 14 P)
    (h0 : dfailsb d m = false → ∀ S', KM (drec d m e) m tr am vs st S' → fc S S' → S' 10 = S 10 → S' 11 = S 11 → P (.inl none) S') : Y_J_write mc ms [xv_r 4 m, xv_r 11 p] S P := by
  obtain ⟨q, s, cp, ls, hR, hX, hc, hF, e3, e4, e6, es⟩ := h
  have hls : ls m = d.2 m := hX.1.1 m (by omega)
  have hful : full (ls m) (cp m) * gc (cp m) ≤ 1650 := by
    unfold full
    split
    · next z =>
      rw [hls] at z
      unfold gc
      split
      · decide
      · omega
    · omega
  have hcx : ∀ q' cp' ls' S', CB (drec d m e) q' ls' → wst m q cp ls S q' cp' ls' S' → CX (drec d m e) q' s ls' m ∧ capok (drec d m e) cp' ∧ q' 3 m = tr ∧ q' 4 m = am ∧ ls' (6 + m) = vs := by
    intro q' cp' ls' S' hb ⟨w1, w2, w3, w4, w5, w6, w7⟩
    refine ⟨⟨hb, fun m' hm' hne => (hX.2.1 m' hm' hne).keep (by rw [drec_10, if_neg (fun z => hne z.2.2)]) (drec_ne hne) (by rw [w1 3 (by omega)]) (by rw [w1 4 (by omega)]) rfl (by rw [w2 _ (by omega)]), hX.2.2.1.keep (drec_ne (by omega)) (by rw [w1 0 (by omega)]) (by rw [w1 13 (by omega)]), hX.2.2.2.1.keep (drec_ne (by omega)) (by rw [w1 0 (by omega)]), hX.2.2.2.2⟩, ⟨fun j hj => ?_, fun j hj hj' => ?_, ?_⟩, by rw [w1 3 (by omega)]; exact e3, by rw [w1 4 (by omega)]; exact e4, by rw [w2 _ (by omega)]; exact e6⟩
    · rcases w3 j with z | ⟨z1, z2, z3⟩
      · rw [z]
        exact hc.1 j hj
      · subst z1
        rw [z3]
        rw [hls] at z2
        unfold gc
        split
        · decide
        · omega
    · rcases w3 j with z | ⟨z1, z2, z3⟩
      · rw [z]
        exact hc.2.1 j hj hj'
      · omega
    · rcases w3 5 with z | ⟨z1, z2, z3⟩
      · rw [z, drec_ne (by omega)]
        exact hc.2.2
      · omega
  refine c_write (w := m) hR hX.1 (by omega) hp (by rw [hls]; omega) hF h54 hmc (by omega) (fun hf q' cp' ls' S' r b w => ?_) (fun hf q' cp' ls' S' nx r b w hn => ?_)
  · obtain ⟨k1, k2, k3, k4, k5⟩ := hcx q' cp' ls' S' b w
    exact h0 hf S' ⟨q', s, cp', ls', r, k1, k2, w.2.2.2.2.2.2, k3, k4, k5, es⟩ w.2.2.2.1 w.2.2.2.2.1 w.2.2.2.2.2.1
  · obtain ⟨k1, k2, k3, k4, k5⟩ := hcx q' cp' ls' S' b w
    refine h1 hf S' nx ⟨q', s, cp', ls', r, k1.ca ⟨k1.2.2.2.2, fun z => (z ?_).elim⟩, k2, w.2.2.2.2.2.2⟩ w.2.2.2.1 hn
    rw [drec_10, if_pos ⟨hf, by omega, rfl⟩]
theorem nc_full {n : Nat} (h : n < 3000) (hf : n = nc n) : gc (nc n) ≤ 4499 := by
  rw [← hf]
  unfold gc
  split
  · decide
  · omega
theorem nS_step {n : Nat} (h : n < 3000) : nS (n + 1) - nS n ≤ 4505 ∧ nK (n + 1) - nK n ≤ 2 := by
  have e1 : nS (n + 1) = nS n + 6 + (if n = nc n then gc (nc n) else 0) := rfl
  have e2 : nK (n + 1) = nK n + 1 + (if n = nc n then 1 else 0) := rfl
  by_cases y : n = nc n
  · have := nc_full h y
    rw [if_pos y] at e1 e2
    omega
  · rw [if_neg y] at e1 e2
    omega
theorem dsent_len (d : DS) (e : R6) : ((dsent d e).2 5).length = if (d.2 5).length = 3000 then (d.2 5).length else (d.2 5).length + 1 := by
  unfold dsent
  split
  · rfl
  · rw [dapp_self, List.length_append]
    rfl
theorem cwrong_sent {e : R6} (h : e.1 ≠ 510) : cwrong ((dsent d e).2 5) = cwrong (d.2 5) := by
  unfold dsent
  split
  · rfl
  · rw [dapp_self]
    unfold cwrong
    rw [List.filter_append, List.filter_cons_of_neg (by simp [h]), List.filter_nil, List.append_nil]
theorem c_sd {mc ms : Nat} (e : R6) (h : KM d m tr am vs st S) (hm : m < 4) (h5 : e.1 ≠ 510) (hl : (d.2 5).length ≤ 3000) (h54 : rk S) (hmc : (d.2 5).length < 3000 → nK ((d.2 5).length + 1) - nK (d.2 5).length ≤ mc) (hms : (d.2 5).length < 3000 → nS ((d.2 5).length + 1) - nS (d.2 5).length ≤ ms)
    (hP : ∀ S', KM (dsent d e) m tr am vs st S' → fc S S' → S' 11 = S 11 → P (.inl (some (xv_i (if (d.2 5).length < 3000 then 1 else 0)))) S') :
    Y_N_send mc ms [xv_r 1 0, xv_r 50 (tyN e.1), xv_i e.2.1, xv_i e.2.2.1, xv_i e.2.2.2.1, xv_i e.2.2.2.2.1, xv_i e.2.2.2.2.2] S P := by
  obtain ⟨q, s, cp, ls, hR, hX, hc, hF, e3, e4, e6, es⟩ := h
  have hls : ls 5 = d.2 5 := hX.1.1 5 (by omega)
  have hcp : cp 5 = nc (d.2 5).length := hc.2.2
  refine c_send e hR hX.1 hl hF h54 (fun z => ?_) (fun z => ?_) fun cp' ls' S' r b ⟨w1, w2, w3, w4, w5, w6, w7⟩ => ?_
  · rw [hls] at z ⊢
    have := hmc z
    have e1 : nK ((d.2 5).length + 1) = nK (d.2 5).length + 1 + (if (d.2 5).length = nc (d.2 5).length then 1 else 0) := rfl
    unfold full
    rw [hcp]
    omega
  · rw [hls] at z ⊢
    have := hms z
    have e1 : nS ((d.2 5).length + 1) = nS (d.2 5).length + 6 + (if (d.2 5).length = nc (d.2 5).length then gc (nc (d.2 5).length) else 0) := rfl
    unfold full
    rw [hcp]
    by_cases y : (d.2 5).length = nc (d.2 5).length
    · rw [if_pos y] at e1 ⊢
      omega
    · rw [if_neg y] at e1 ⊢
      omega
  · refine hP S' ⟨q, s, cp', ls', r, ⟨b, fun m' hm' hne => (hX.2.1 m' hm' hne).keep (by rw [dsent_1]) (dsent_ne (by omega)) rfl rfl rfl (w1 _ (by omega)), hX.2.2.1.keep (dsent_ne (by decide)) rfl rfl, ?_, hX.2.2.2.2⟩, ⟨fun j hj => by rw [w2 j (by omega)]; exact hc.1 j hj, fun j hj hj' => by rw [w2 j (by omega)]; exact hc.2.1 j hj hj', ?_⟩, w7, e3, e4, by rw [w1 _ (by omega)]; exact e6, es⟩ w4 w6
    · unfold CT
      rw [cwrong_sent h5]
      exact hX.2.2.2.1
    · rw [w3, hls, dsent_len, hcp]
      by_cases z : (d.2 5).length = 3000
      · rw [if_pos z, if_neg (by omega)]
      · rw [if_neg z]
        show _ = if _ then _ else _
        by_cases y : (d.2 5).length = nc (d.2 5).length
        · rw [if_pos ⟨by omega, y⟩, if_pos y]
        · rw [if_neg (fun x => y x.2), if_neg y]
/-- a VOID more -/
theorem c_va {p : Nat} {e : R6} (h : KM d m tr am vs st S) (hm : m < 4) (hp : S 11 p = some (.inl (6, eR e))) (hl : vs.length ≤ 512) (h54 : rk S) :
    ∃ mc ms, mc ≤ 1 ∧ ms ≤ 768 ∧ ∀ P : XP, (∀ S', KM d m tr am (vs ++ [e]) st S' → fc S S' → S' 10 = S 10 → S' 11 = S 11 → P (.inl (some (xv_i 1))) S') → Y_A_add mc ms [xv_r 6 (6 + m), xv_r 11 p] S P := by
  obtain ⟨q, s, cp, ls, hR, hX, hc, hF, e3, e4, e6, es⟩ := h
  have hL := hR.2.2.2.2.2.2.2.2 (6 + m) (by omega)
  have hcc := hc.2.1 (6 + m) (by omega) (by omega)
  rw [e6] at hL
  have e1 : lk (6 + m) = 11 := if_neg (by omega)
  have e2 : lcl (6 + m) = 6 := if_neg (by omega)
  have e3' : lR (6 + m) e = eR e := if_neg (by omega)
  have hf1 : full vs (cp (6 + m)) ≤ 1 := by
    unfold full
    split <;> decide
  have hful : full vs (cp (6 + m)) * gc (cp (6 + m)) ≤ 768 := by
    unfold full
    split
    · next z =>
      unfold gc
      split
      · decide
      · omega
    · omega
  refine ⟨full vs (cp (6 + m)), full vs (cp (6 + m)) * gc (cp (6 + m)), hf1, hful, fun P hP => ?_⟩
  have ka := c_add (e := e) (p := p) hL (by omega) (by rw [e1, e2, e3']; exact hp) (by omega) hF h54 (P := P) fun S' a1 a2 a3 => ?_
  · rw [e1] at ka
    exact ka
  · have r := hR.lst (by omega) a1 a2
    refine hP S' ⟨q, s, _, _, r, ⟨hX.1.own (fun _ _ _ _ _ => rfl) (fun j hj => if_neg (by omega)), fun m' hm' hne => (hX.2.1 m' hm' hne).keep rfl rfl rfl rfl rfl (if_neg (by omega)), hX.2.2.1, hX.2.2.2.1, hX.2.2.2.2⟩, ⟨fun j hj => ?_, fun j hj hj' => ?_, ?_⟩, a3, e3, e4, if_pos rfl, es⟩ (a2.fc (by omega)) (a2.k (by decide) (by omega)) (a2.k (by decide) (by omega))
    · show (if j = 6 + m then _ else cp j) ≤ 1800
      rw [if_neg (by omega)]
      exact hc.1 j hj
    · show (if j = 6 + m then (if vs.length = cp (6 + m) then gc (cp (6 + m)) else cp (6 + m)) else cp j) ≤ 800
      by_cases z : j = 6 + m
      · rw [if_pos z]
        by_cases y : vs.length = cp (6 + m)
        · rw [if_pos y]
          unfold gc
          split
          · decide
          · omega
        · rw [if_neg y]
          exact hcc
      · rw [if_neg z]
        exact hc.2.1 j hj hj'
    · show (if 5 = 6 + m then _ else cp 5) = _
      rw [if_neg (by omega)]
      exact hc.2.2
end CK
