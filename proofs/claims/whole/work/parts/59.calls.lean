noncomputable def don (d : DS) (w : Nat) : DS × Int32 × Int32 := if w = 4 then (dset d 9 0 1, 0, Int32.ofNat (d.2 4).length) else ((dwakes d w).1, (if (dwakes d w).2 = true then 2 else 0), if (dwakes d w).2 = true then 0 else Int32.ofNat (d.2 w).length)
set_option maxHeartbeats 4000000 in
theorem r_on {d : DS} {g : Nat → Nat → Int32} {S : XH} {P : XP} {w : Int32} (hR : RM g S) (hD : MD d g) (hX : RX S) (hA : ∀ M, M < 4 → dlast d M ≠ 0 → fR (d.2 M) 1 (Int32.ofNat M) (dlast d M) ≠ none) (hc : ∀ M, M < 4 → (d.2 M).length + 2 ≤ jcap M)
    (hb : ¬ (0 ≤ w ∧ w ≤ 4) → mC d 1 S (fun S' => P (.inl (some (xv_i 0))) S'))
    (ho : ∀ M, M < 5 → w = Int32.ofNat M → mC (don d M).1 (don d M).2.1 S (fun S' => P (.inl (some (xv_i (don d M).2.2))) S')) : Y_R_on 2 12 [xv_r 15 0, xv_i w] S P := by
  have fin : ∀ (th : Int32), (0 < th → mC d th S (fun S' => P (.inl (some (xv_i 0))) S')) → (th ≤ 0 → th = 0 ∧ ∃ M, M < 5 ∧ w = Int32.ofNat M) →
      x_go b_R_on P 15 [some (xv_r 15 0), some (xv_i w), none, none] [xv_i th, xv_r 15 0] S 2 12 := by
    intro th hv hz
    refine x_go.run mn_R_on 40 ?_
    refine ⟨trivial, _, hR.1, nl rfl, nl rfl, ?_⟩
    obtain ⟨g1, a1, a2, a3, a4, a5, a6, a7⟩ := thr hR hD hX th
    show x_run b_R_on P (x_go b_R_on P) 39 18 [some (xv_r 15 0), some (xv_i w), none, none] [] (x_up S 15 0 (.inl (10, (mfl g).set 26 (xv_i th)))) 2 12
    generalize x_up S 15 0 (.inl (10, (mfl g).set 26 (xv_i th))) = S2 at a1 a5 a6 a7 ⊢
    refine ⟨nl rfl, _, _, a1.1, rfl, ?_⟩
    rw [a3]
    refine ⟨fun q => ?_, fun q => hv (Int32.not_le.mp q) g1 S2 a1 a2 a3 a5 a6⟩
    obtain ⟨v0, M, hM, rfl⟩ := hz q
    have a3 : g1 26 0 = 0 := a3.trans v0
    have h := ho M hM rfl
    unfold don at h
    refine ⟨nl rfl, _, _, a1.1, rfl, ?_⟩
    refine ⟨_, _, a1.2.1 6 rfl, z_in (by exact hM) (by decide), ?_⟩
    rw [z_nat (by omega), (a2.2.2.1 M hM).1]
    refine ⟨fun q => ?_, fun q => ?_⟩
    · have h4 : M ≠ 4 := fun z => q (by rw [z]; rfl)
      rw [if_neg h4] at h
      have hM4 : M < 4 := by omega
      obtain ⟨nx, hnx⟩ := a6
      refine ⟨nl rfl, ⟨_, a1.1⟩, rfl, nl rfl, 2, 12, nl rfl, nl rfl, r_wakes (nx := nx) a1 a2 hM4 (hc M hM4) (hnx nx (Nat.le_refl _)) (hA M hM4) ⟨fun hf g3 S3 b1 b2 b3 b4 b5 => ?_, fun hf g3 S3 b1 b2 b3 b4 b5 b6 => ?_⟩⟩
      · rw [if_neg (by rw [hf]; decide), if_neg (by rw [hf]; decide)] at h
        exact h g3 S3 b1 b2 (by rw [b3 26 rfl]; exact a3) (a5.tr b4) (RX.eq ⟨nx, hnx⟩ b5)
      · rw [if_pos hf, if_pos hf] at h
        refine ⟨14, [], 54, b6, nl rfl, rfl, ?_⟩
        refine ⟨trivial, _, b1.1, nl rfl, nl rfl, ?_⟩
        exact b1.put26 b2 (RX.ne ⟨nx, hnx⟩ b5) (a5.tr b4) 2 h
    · have h4 : M = 4 := (z_eq (b := 4) (by omega) (by decide)).mp (Classical.not_not.mp q)
      subst h4
      rw [if_pos rfl] at h
      refine ⟨Or.inr rfl, _, a1.1, nl rfl, nl rfl, ?_⟩
      exact h _ _ (a1.put (n := 9) 1 (Or.inl rfl)) (a2.set9 1) (by rw [gs_ne (by decide)]; exact a3) (a5.up (by decide) (by decide)) (a6.eq (x_up_k (by decide)))
  refine x_go.run mn_R_on 40 ?_
  refine ⟨nl rfl, rfl, nl rfl, 0, 0, Nat.zero_le _, Nat.zero_le _, r_in (fun h1 h2 => ?_) (fun h0 => ?_)⟩
  · refine ⟨fun q => absurd q (by decide), fun _ => ?_⟩
    obtain ⟨M, hM, rfl⟩ := in_nat 4 (by decide) h1 h2
    exact x_go.back mn_R_on (x_go.run mn_R_on 2 (fin 0 (fun q => absurd q (by decide)) (fun _ => ⟨rfl, M, by omega, rfl⟩)))
  · exact ⟨fun _ => x_go.back mn_R_on (x_go.run mn_R_on 1 (fin 1 (fun _ => hb h0) (fun q => absurd q (by decide)))), fun q => (q rfl).elim⟩
/-- what count counts, as the model does -/
def cwrong (l : List R6) : Int32 := Int32.ofNat (l.filter (fun e => e.1 == 510 && !(e.2.2.2.2.2 == 0))).length
def cstep3 (d : DS) (n : Int32) (a : Nat) : Int32 := n + worthOf (d.2 4) (Int32.ofNat a)
def cstep4 (d : DS) (n : Int32) (a : Nat) : Int32 := if 500 < worthOf (d.2 4) (Int32.ofNat a) + d.1 18 a then n + 1 else n
def cstep5 (d : DS) (n : Int32) (a : Nat) : Int32 := if 500 = worthOf (d.2 4) (Int32.ofNat a) + d.1 18 a then n else n + 1
noncomputable def dbusy (d : DS) (m : Nat) : Prop := d.1 10 m = 0 ∨ d.1 10 m = 4 ∨ (voidsOf (d.2 m) (Int32.ofNat m)).length ≠ 0
noncomputable def dquietb (d : DS) : Bool := @decide (∀ m, m < 4 → ¬ dbusy d m) (Classical.propDecidable _)
theorem dquietb_iff {d : DS} : dquietb d = true ↔ ∀ m, m < 4 → ¬ dbusy d m := @decide_eq_true_iff _ (Classical.propDecidable _)
noncomputable def dcount (d : DS) (what : Nat) : Int32 :=
  if what = 0 then Int32.ofNat (d.2 5).length else if what = 1 then (if d.1 9 0 = 0 then 0 else 1) else if what = 2 then Int32.ofNat (d.2 4).length else if what = 6 then cwrong (d.2 5)
  else if what = 3 then (List.range 200).foldl (cstep3 d) 0 else if what = 4 then (List.range 200).foldl (cstep4 d) 0 else if dquietb d = true then (List.range 200).foldl (cstep5 d) 0 else 0
