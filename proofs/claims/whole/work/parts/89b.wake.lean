section DA
variable {S : XH} {P : XP} {d : DS} {m st : Nat} {tr am : Int32} {vs : List R6} {e : R6} {p : Nat}
noncomputable def dfin (D : DS) (m : Nat) : DS × Bool :=
  if dlast D m = 0 then (D, false)
  else if fR (D.2 m) 2 (Int32.ofNat m) (dlast D m) = none ∧ fR (D.2 m) 3 (Int32.ofNat m) (dlast D m) = none ∧ fR (D.2 m) 4 (Int32.ofNat m) (dlast D m) = none ∧ fR (D.2 m) 5 (Int32.ofNat m) (dlast D m) = none then drev D m (dlast D m) (amtOf (D.2 m) (Int32.ofNat m) (dlast D m))
  else if fR (D.2 m) 2 (Int32.ofNat m) (dlast D m) ≠ none ∧ fR (D.2 m) 3 (Int32.ofNat m) (dlast D m) = none then dpaid D m (dlast D m) (dcame D m (dlast D m))
  else if fR (D.2 m) 3 (Int32.ofNat m) (dlast D m) ≠ none ∧ fR (D.2 m) 4 (Int32.ofNat m) (dlast D m) = none then drest D m (dlast D m) (oval (fR (D.2 m) 3 (Int32.ofNat m) (dlast D m)))
  else (D, false)
theorem dwakes_fin (d : DS) (m : Nat) : dwakes d m = dfin (dset d 10 m 1) m := by
  unfold dwakes dfin dcame
  rw [dset_nt (show 14 ≠ 10 by decide), dset_nt (show 15 ≠ 10 by decide)]
  rfl
theorem c_has {k : Int32} {n : Nat} (h : KM d m tr am vs st S) (hm : m < 4) (hi : Jok m (d.2 m)) (hl : (d.2 m).length ≤ n) (hn : n ≤ 100000) (h1 : fR (d.2 m) k (Int32.ofNat m) tr ≠ none → P (.inl (some (xv_i 1))) S) (h0 : fR (d.2 m) k (Int32.ofNat m) tr = none → P (.inl (some (xv_i 0))) S) : Y_M_has 0 0 [xv_r 3 m, xv_i k] S P := by
  obtain ⟨q, s, cp, ls, hR, hX, -⟩ := id h
  have hls : ls m = d.2 m := hX.1.1 m (by omega)
  refine x_go.run mn_M_has 20 ?_
  refine ⟨nl rfl, _, _, (h.obj hm), rfl, ?_⟩
  refine ⟨nl rfl, _, _, (h.obj hm), rfl, ?_⟩
  refine ⟨nl rfl, _, _, (h.obj hm), rfl, ?_⟩
  refine ⟨nl rfl, ⟨_, hR.2.2.2.2.1 m (by omega)⟩, rfl, nl rfl, 0, 0, Nat.zero_le _, Nat.zero_le _, c_jfind (w := m) hR (by omega) hls (Jok.un hi (by omega)) (fun z => ?_) (fun x p z _ => ?_)⟩
  · exact ⟨Or.inl rfl, h0 z⟩
  · exact ⟨Or.inr rfl, h1 (by rw [z]; simp)⟩
set_option maxHeartbeats 4000000 in
theorem c_finish {n : Nat} (h : KM d m (dlast d m) am (voidsOf (d.2 m) (Int32.ofNat m)) st S) (hro : ro S) (hm : m < 4) (hj : Jok m (d.2 m)) (hl : (d.2 m).length ≤ 1024) (hv : (voidsOf (d.2 m) (Int32.ofNat m)).length ≤ 512) (h5 : (d.2 5).length ≤ 3000) (ham : 1 ≤ asks (d.2 m) → am = amtOf (d.2 m) (Int32.ofNat m) (dlast d m))
    (h1 : (dfin d m).2 = true → kT (dfin d m).1 S 14 P)
    (h0 : (dfin d m).2 = false → ∀ S', KM (dfin d m).1 m (dlast d m) am (voidsOf ((dfin d m).1.2 m) (Int32.ofNat m)) st S' → asks ((dfin d m).1.2 m) = asks (d.2 m) → (dfin d m).1.1 10 m = d.1 10 m → fc S S' → P (.inl none) S') : Y_M_finishLast 9 8597 [xv_r 3 m] S P := by
  have hal := asks_le (d.2 m)
  unfold dfin at h0 h1
  have ret : (dfin d m) = (d, false) → ∀ u w, x_go b_M_finishLast P 23 [some (xv_r 3 m), none] [] S u w := by
    intro hd u w
    unfold dfin at hd
    rw [hd] at h0
    refine x_go.run mn_M_finishLast 1 ?_
    exact h0 rfl S h rfl rfl fc.rf
  refine x_go.run mn_M_finishLast 30 ?_
  refine ⟨nl rfl, _, _, (h.obj hm), rfl, ?_⟩
  refine ⟨fun c => x_go.back mn_M_finishLast (ret (by unfold dfin; rw [if_pos c]) _ _), fun c => ?_⟩
  have c : ¬ dlast d m = 0 := c
  rw [if_neg c] at h0 h1
  have ha : 1 ≤ asks (d.2 m) := by
    by_cases z : asks (d.2 m) = 0
    · exact (c (by show Int32.ofNat (asks (d.2 m)) = 0; rw [z]; rfl)).elim
    · omega
  have ham := ham ha
  have two := Jok.two hj (dlast d m)
  have three := Jok.three hj (dlast d m)
  have away : (fR (d.2 m) 4 (Int32.ofNat m) (dlast d m) ≠ none ∨ fR (d.2 m) 5 (Int32.ofNat m) (dlast d m) ≠ none) → dfin d m = (d, false) := by
    intro z
    unfold dfin
    rw [if_neg c, if_neg, if_neg, if_neg]
    · rintro ⟨y1, y2⟩
      rcases z with z | z
      · exact z y2
      · exact (three y1).2 z y2
    · rintro ⟨y1, y2⟩
      rcases two z with y | y
      · exact y1 y
      · exact y y2
    · rintro ⟨-, -, y1, y2⟩
      rcases z with z | z
      · exact z y1
      · exact z y2
  refine ⟨nl rfl, ⟨_, h.obj hm⟩, rfl, nl rfl, 0, 0, Nat.zero_le _, Nat.zero_le _, c_has (m := m) h hm hj hl (by decide) (fun z => ?_) (fun z4 => ?_)⟩
  · exact ⟨fun _ => x_go.back mn_M_finishLast (ret (away (Or.inl z)) _ _), fun y => (y (by decide)).elim⟩
  refine ⟨fun y => absurd rfl y, fun _ => ?_⟩
  refine ⟨nl rfl, ⟨_, h.obj hm⟩, rfl, nl rfl, 0, 0, Nat.zero_le _, Nat.zero_le _, c_has (m := m) h hm hj hl (by decide) (fun z => ?_) (fun z5 => ?_)⟩
  · exact ⟨fun y => absurd y (by decide), fun _ => x_go.back mn_M_finishLast (ret (away (Or.inr z)) _ _)⟩
  refine ⟨fun _ => ?_, fun y => (y rfl).elim⟩
  obtain ⟨q, s, cp, ls, hR, hX, -⟩ := id h
  have hls : ls m = d.2 m := hX.1.1 m (by omega)
  refine x_go.back mn_M_finishLast (x_go.run mn_M_finishLast 40 ?_)
  refine ⟨nl rfl, _, _, (h.obj hm), rfl, ?_⟩
  refine ⟨nl rfl, _, _, (h.obj hm), rfl, ?_⟩
  refine ⟨nl rfl, _, _, (h.obj hm), rfl, ?_⟩
  refine ⟨nl rfl, ⟨_, hR.2.2.2.2.1 m (by omega)⟩, rfl, nl rfl, 0, 0, Nat.zero_le _, Nat.zero_le _, c_jfind (w := m) hR (by omega) hls (Jok.un hj (by omega)) (fun z3 => ?_) (fun x p z3 hx => ?_)⟩
  · refine ⟨nl rfl, ⟨_, h.obj hm⟩, rfl, nl rfl, 0, 0, Nat.zero_le _, Nat.zero_le _, c_has (m := m) h hm hj hl (by decide) (fun z2 => ?_) (fun z2 => ?_)⟩
    · refine ⟨fun y => absurd y (by decide), fun _ => ?_⟩
      rw [if_neg (fun y => z2 y.1), if_pos ⟨z2, z3⟩] at h0 h1
      exact ⟨nl rfl, ⟨_, h.obj hm⟩, rfl, nl rfl, 9, 8597, nl rfl, nl rfl, c_endPay (m := m) h hro hm ham z5 (by omega) h5 hv h1 (fun z S' k a b f => h0 z S' k a b f)⟩
    · refine ⟨fun _ => ?_, fun y => (y rfl).elim⟩
      rw [if_pos ⟨z2, z3, z4, z5⟩] at h0 h1
      obtain ⟨v, v1, v2, v3⟩ := amt_ex hj (by omega) ha
      have er : vrest d m (dlast d m) (am - 0) = drev d m (dlast d m) (amtOf (d.2 m) (Int32.ofNat m) (dlast d m)) := by
        unfold vrest
        rw [z_sub0, ham, if_pos (by rw [show amtOf (d.2 m) (Int32.ofNat m) (dlast d m) = Int32.ofNat v from v3]; exact (z_lt (a := 0) (by decide) (by omega)).mpr (by omega))]
      refine ⟨nl rfl, ⟨_, h.obj hm⟩, rfl, nl rfl, 6, 6935, nl rfl, nl rfl, c_voidRest (m := m) h hm (by omega) h5 hv hro.2.2.2.2.2 (fun z => ?_) (fun z S1 k1 g1 => ?_)⟩
      · rw [er] at z ⊢
        exact h1 z
      · obtain ⟨w1, w2, w3⟩ := vrest_m hm z z5
        rw [w1] at k1
        rw [er] at z k1 w2 w3
        exact h0 z S1 k1 w2 w3 g1
  · have n3 : fR (d.2 m) 3 (Int32.ofNat m) (dlast d m) ≠ none := by
      rw [z3]
      simp
    rw [if_neg (fun y => n3 y.2.1), if_neg (fun y => n3 y.2), if_pos ⟨n3, z4⟩] at h0 h1
    have er : drest d m (dlast d m) (oval (fR (d.2 m) 3 (Int32.ofNat m) (dlast d m))) = vrest d m (dlast d m) (am - x.2.2.2.2.1) := by
      unfold drest vrest
      rw [z3, ham]
      rfl
    rw [er] at h0 h1
    refine ⟨nl rfl, ⟨_, hx⟩, rfl, nl rfl, 0, 0, Nat.zero_le _, Nat.zero_le _, c_evalue hx ?_⟩
    refine ⟨nl rfl, ⟨_, h.obj hm⟩, rfl, nl rfl, 6, 6935, nl rfl, nl rfl, c_voidRest (m := m) h hm (by omega) h5 hv hro.2.2.2.2.2 h1 (fun z S1 k1 g1 => ?_)⟩
    obtain ⟨w1, w2, w3⟩ := vrest_m hm z z5
    rw [w1] at k1
    exact h0 z S1 k1 w2 w3 g1
end DA
