noncomputable def dwakes (d : DS) (m : Nat) : DS × Bool :=
  if dlast d m = 0 then (dset d 10 m 1, false)
  else if fR (d.2 m) 2 (Int32.ofNat m) (dlast d m) = none ∧ fR (d.2 m) 3 (Int32.ofNat m) (dlast d m) = none ∧ fR (d.2 m) 4 (Int32.ofNat m) (dlast d m) = none ∧ fR (d.2 m) 5 (Int32.ofNat m) (dlast d m) = none then drev (dset d 10 m 1) m (dlast d m) (amtOf (d.2 m) (Int32.ofNat m) (dlast d m))
  else if fR (d.2 m) 2 (Int32.ofNat m) (dlast d m) ≠ none ∧ fR (d.2 m) 3 (Int32.ofNat m) (dlast d m) = none then dpaid (dset d 10 m 1) m (dlast d m) (if d.1 14 m = dlast d m then d.1 15 m else 0)
  else if fR (d.2 m) 3 (Int32.ofNat m) (dlast d m) ≠ none ∧ fR (d.2 m) 4 (Int32.ofNat m) (dlast d m) = none then drest (dset d 10 m 1) m (dlast d m) (oval (fR (d.2 m) 3 (Int32.ofNat m) (dlast d m)))
  else (dset d 10 m 1, false)
theorem r_hasR {g : Nat → Nat → Int32} {S : XH} {P : XP} {w : Nat} {l : List R6} {kind tr : Int32} (hR : RM g S) (hw : w < 5) (hJ : JM g w l)
    (h0 : fR l kind (Int32.ofNat w) tr = none → P (.inl (some (xv_i 0))) S) (h1 : fR l kind (Int32.ofNat w) tr ≠ none → P (.inl (some (xv_i 1))) S) :
    Y_R_has 0 0 [xv_r 15 0, xv_i (Int32.ofNat w), xv_i kind, xv_i tr] S P :=
  r_has hR hw hJ (fun q => h0 (fR_none.mpr q)) (fun q => h1 (fR_ex' q))
/-- the code behind the four questions, each answered 0 or 1 -/
theorem r_wakes {d : DS} {g : Nat → Nat → Int32} {S : XH} {P : XP} {m nx : Nat} (hR : RM g S) (hD : MD d g) (hm : m < 4) (hc : (d.2 m).length + 2 ≤ jcap m) (hx : S 19 nx = none)
    (hA : dlast d m ≠ 0 → fR (d.2 m) 1 (Int32.ofNat m) (dlast d m) ≠ none)
    (h : mO (dwakes d m) g S nx P) : Y_R_wakes 2 12 [xv_r 15 0, xv_i (Int32.ofNat m)] S P := by
  have hw5 : m < 5 := by omega
  have e14 : g 14 = d.1 14 := hD.1 14 rfl
  have e15 : g 15 = d.1 15 := hD.1 15 rfl
  refine x_go.run mn_R_wakes 60 ?_
  refine ⟨nl rfl, _, _, hR.1, rfl, ?_⟩
  refine ⟨_, _, hR.2.1 10 rfl, nl rfl, z_in (by exact hm) (by decide), ?_⟩
  rw [z_nat (by omega)]
  have hR1 := hR.ast (n := 10) rfl (upd (g 10) m 1)
  have hD1 := hD.set (n := 10) rfl m 1
  have hg1 : ∀ k, k ≠ 10 → gs g 10 (upd (g 10) m 1) k = g k := fun k hk => gs_ne hk
  have hs1 : fm S (x_up S 16 10 (.inr (0, ml 10, .inl (upd (g 10) m 1)))) := fm.rf.up (by decide) (by decide)
  have hn1 : x_up S 16 10 (.inr (0, ml 10, .inl (upd (g 10) m 1))) 19 = S 19 := x_up_k (by decide)
  have h := h.tr (fun k hk => hg1 k (by omega)) hs1 hn1
  generalize gs g 10 (upd (g 10) m 1) = g1 at hR1 hD1 hg1 h
  have hx1 : x_up S 16 10 (.inr (0, ml 10, .inl (upd (g 10) m 1))) 19 nx = none := by rw [hn1]; exact hx
  show x_run b_R_wakes P (x_go b_R_wakes P) 55 7 [some (xv_r 15 0), some (xv_i (Int32.ofNat m)), none, none, none, none, none, none] [] (x_up S 16 10 (.inr (0, ml 10, .inl (upd (g 10) m 1)))) 2 12
  generalize x_up S 16 10 (.inr (0, ml 10, .inl (upd (g 10) m 1))) = S1 at hR1 hs1 hn1 h hx1 ⊢
  have hJ := hD1.2.2.1 m hw5
  have hJ' : JM g1 m (d.2 m) := hJ
  refine ⟨nl rfl, ⟨_, hR1.1⟩, rfl, nl rfl, 0, 0, Nat.zero_le _, Nat.zero_le _, (r_lastTrace hR1 hw5 hJ' ?_)⟩
  show x_run b_R_wakes P (x_go b_R_wakes P) 52 12 [some (xv_r 15 0), some (xv_i (Int32.ofNat m)), none, none, none, none, none, none] [xv_i (dlast d m)] S1 2 12
  unfold dwakes at h
  generalize ht : dlast d m = t at h hA ⊢
  refine ⟨fun q => ?_, fun q => ?_⟩
  rotate_left
  · have q : t = 0 := Classical.not_not.mp q
    rw [if_pos q] at h
    exact h.1 rfl g1 S1 hR1 hD1 (fun _ _ => rfl) fm.rf rfl
  have q : ¬ t = 0 := q
  have hA := hA q
  rw [if_neg q] at h
  have last : ∀ (v2 v3 v4 v5 : Int32), (v2 = 0 ↔ fR (d.2 m) 2 (Int32.ofNat m) t = none) → (v3 = 0 ↔ fR (d.2 m) 3 (Int32.ofNat m) t = none) → (v4 = 0 ↔ fR (d.2 m) 4 (Int32.ofNat m) t = none) → (v5 = 0 ↔ fR (d.2 m) 5 (Int32.ofNat m) t = none) →
      x_go b_R_wakes P 53 [some (xv_r 15 0), some (xv_i (Int32.ofNat m)), some (xv_i t), some (xv_i v2), some (xv_i v3), some (xv_i v4), some (xv_i v5), none] [] S1 2 12 := by
    intro v2 v3 v4 v5 i2 i3 i4 i5
    have two : ¬ (v2 = 0 ∧ v3 = 0 ∧ v4 = 0 ∧ v5 = 0) → x_go b_R_wakes P 87 [some (xv_r 15 0), some (xv_i (Int32.ofNat m)), some (xv_i t), some (xv_i v2), some (xv_i v3), some (xv_i v4), some (xv_i v5), none] [] S1 2 12 := by
      intro hn
      rw [if_neg (by rw [← i2, ← i3, ← i4, ← i5]; exact hn)] at h
      have three : ¬ (v2 ≠ 0 ∧ v3 = 0) → x_go b_R_wakes P 125 [some (xv_r 15 0), some (xv_i (Int32.ofNat m)), some (xv_i t), some (xv_i v2), some (xv_i v3), some (xv_i v4), some (xv_i v5), none] [] S1 2 12 := by
        intro hn3
        rw [if_neg (by rw [Ne, ← i2, ← i3]; exact hn3)] at h
        refine x_go.run mn_R_wakes 60 ?_
        refine ⟨fun q3 => ?_, fun q3 => ?_⟩
        · rw [if_neg (fun z => z.1 (i3.mp q3))] at h
          exact h.1 rfl g1 S1 hR1 hD1 (fun _ _ => rfl) fm.rf rfl
        · refine ⟨fun q4 => ?_, fun q4 => ?_⟩
          · rw [if_neg (fun z => q4 (i4.mpr z.2))] at h
            exact h.1 rfl g1 S1 hR1 hD1 (fun _ _ => rfl) fm.rf rfl
          · have h3n : fR (d.2 m) 3 (Int32.ofNat m) t ≠ none := fun z => q3 (i3.mpr z)
            rw [if_pos ⟨h3n, i4.mp (Classical.not_not.mp q4)⟩] at h
            unfold drest at h
            rw [dset_2] at h
            refine ⟨nl rfl, ⟨_, hR1.1⟩, rfl, nl rfl, 0, 0, Nat.zero_le _, Nat.zero_le _, (r_amt hR1 hw5 hJ' hA ?_)⟩
            refine ⟨nl rfl, _, _, hR1.1, rfl, ?_⟩
            refine ⟨nl rfl, ⟨_, hR1.1⟩, rfl, nl rfl, 0, 0, Nat.zero_le _, Nat.zero_le _, (r_find hR1 hw5 hJ' ?_ ?_)⟩
            · intro hno
              obtain ⟨e, he, z⟩ := fR_ex h3n
              obtain ⟨i, hi, rfl⟩ := List.mem_iff_getElem.mp he
              exact (hno i hi z).elim
            · intro i hi z1 z2
              have hcap := jcap_le hw5 hJ'.2.1
              rw [fR_first hi z1 z2] at h
              refine ⟨_, _, hR1.2.1 3 rfl, z_in (by show _ < 8800; omega) (by decide), ?_⟩
              rw [z_nat (by omega), (hJ'.2.2 i hi).2.2.2.2.2 (Or.inl z1.1)]
              refine ⟨fun c => ?_, fun c => ?_⟩
              · rw [if_neg (show ¬ 0 < amtOf (d.2 m) (Int32.ofNat m) t - oval (some (d.2 m)[i]) from Int32.not_lt.mpr c)] at h
                exact h.1 rfl g1 S1 hR1 hD1 (fun _ _ => rfl) fm.rf rfl
              · rw [if_pos (show 0 < amtOf (d.2 m) (Int32.ofNat m) t - oval (some (d.2 m)[i]) from Int32.not_le.mp c)] at h
                refine ⟨nl rfl, ⟨_, hR1.1⟩, rfl, nl rfl, 1, 6, nl rfl, nl rfl, r_reverse hR1 hD1 hw5 (by show (d.2 m).length < _; omega) hx1 ⟨fun z => h.1 z, fun z => h.2 z⟩⟩
      refine x_go.run mn_R_wakes 60 ?_
      refine ⟨fun q2 => x_go.back mn_R_wakes (three fun z => z.1 q2), fun q2 => ?_⟩
      refine ⟨fun q3 => x_go.back mn_R_wakes (three fun z => q3 z.2), fun q3 => ?_⟩
      have q3 : v3 = 0 := Classical.not_not.mp q3
      rw [if_pos ⟨fun z => q2 (i2.mpr z), i3.mp q3⟩] at h
      refine ⟨nl rfl, _, _, hR1.1, rfl, ?_⟩
      refine ⟨_, _, hR1.2.1 14 rfl, z_in (by exact hm) (by decide), ?_⟩
      rw [z_nat (by omega), hg1 14 (by decide), e14]
      refine ⟨fun c => ?_, fun c => ?_⟩
      · rw [if_neg (show ¬ d.1 14 m = t from c)] at h
        refine ⟨nl rfl, ⟨_, hR1.1⟩, rfl, nl rfl, 2, 12, nl rfl, nl rfl, r_paid hR1 hD1 hw5 (by show (d.2 m).length + 1 < _; omega) hx1 hA ⟨fun z => h.1 z, fun z => h.2 z⟩⟩
      · rw [if_pos (show d.1 14 m = t from Classical.not_not.mp c)] at h
        refine ⟨nl rfl, _, _, hR1.1, rfl, ?_⟩
        refine ⟨_, _, hR1.2.1 15 rfl, z_in (by exact hm) (by decide), ?_⟩
        rw [z_nat (by omega), hg1 15 (by decide), e15]
        refine ⟨nl rfl, ⟨_, hR1.1⟩, rfl, nl rfl, 2, 12, nl rfl, nl rfl, r_paid hR1 hD1 hw5 (by show (d.2 m).length + 1 < _; omega) hx1 hA ⟨fun z => h.1 z, fun z => h.2 z⟩⟩
    refine x_go.run mn_R_wakes 60 ?_
    refine ⟨fun q2 => x_go.back mn_R_wakes (two fun z => q2 z.1), fun q2 => ?_⟩
    refine ⟨fun q3 => x_go.back mn_R_wakes (two fun z => q3 z.2.1), fun q3 => ?_⟩
    refine ⟨fun q4 => x_go.back mn_R_wakes (two fun z => q4 z.2.2.1), fun q4 => ?_⟩
    refine ⟨fun q5 => x_go.back mn_R_wakes (two fun z => q5 z.2.2.2), fun q5 => ?_⟩
    rw [if_pos ⟨i2.mp (Classical.not_not.mp q2), i3.mp (Classical.not_not.mp q3), i4.mp (Classical.not_not.mp q4), i5.mp (Classical.not_not.mp q5)⟩] at h
    refine ⟨nl rfl, ⟨_, hR1.1⟩, rfl, nl rfl, 0, 0, Nat.zero_le _, Nat.zero_le _, (r_amt hR1 hw5 hJ' hA ?_)⟩
    refine ⟨nl rfl, ⟨_, hR1.1⟩, rfl, nl rfl, 1, 6, nl rfl, nl rfl, r_reverse hR1 hD1 hw5 (by show (d.2 m).length < _; omega) hx1 ⟨fun z => h.1 z, fun z => h.2 z⟩⟩
  have b01 : ∀ {kind : Int32} {Q : XP}, (∀ v : Int32, (v = 0 ↔ fR (d.2 m) kind (Int32.ofNat m) t = none) → Q (.inl (some (xv_i v))) S1) → Y_R_has 0 0 [xv_r 15 0, xv_i (Int32.ofNat m), xv_i kind, xv_i t] S1 Q := by
    intro kind Q hQ
    exact r_hasR hR1 hw5 hJ' (fun z => hQ 0 ⟨fun _ => z, fun _ => rfl⟩) (fun z => hQ 1 ⟨fun q => absurd q (by decide), fun q => (z q).elim⟩)
  refine ⟨nl rfl, ⟨_, hR1.1⟩, rfl, nl rfl, 0, 0, Nat.zero_le _, Nat.zero_le _, (b01 fun v2 i2 => ?_)⟩
  refine ⟨nl rfl, ⟨_, hR1.1⟩, rfl, nl rfl, 0, 0, Nat.zero_le _, Nat.zero_le _, (b01 fun v3 i3 => ?_)⟩
  refine ⟨nl rfl, ⟨_, hR1.1⟩, rfl, nl rfl, 0, 0, Nat.zero_le _, Nat.zero_le _, (b01 fun v4 i4 => ?_)⟩
  refine ⟨nl rfl, ⟨_, hR1.1⟩, rfl, nl rfl, 0, 0, Nat.zero_le _, Nat.zero_le _, (b01 fun v5 i5 => ?_)⟩
  exact x_go.back mn_R_wakes (x_go.run mn_R_wakes 1 (last v2 v3 v4 v5 i2 i3 i4 i5))
