section CS
variable {q : Nat → Nat → Int32} {s cp : Nat → Nat} {ls : Nat → List R6} {S : XH} {P : XP} {d : DS} {e : R6} {p : Nat} {wr : Int32}
theorem c_givenBack (hK : KS d S) (hb : Bok (d.2 4)) (hp : S 10 p = some (.inl (7, gR e))) (hP : ∀ n, S 11 n = none → P (.inl (some (xv_r 11 n))) (x_up S 11 n (.inl (6, eR (dgb d e))))) : Y_B_givenBack 1 6 [xv_r 2 0, xv_r 10 p] S P := by
  obtain ⟨q0, q1, hbo⟩ := hK.bobj
  have fin : ∀ (a4 a5 : Int32) (j2 j3 : Option XV), dgb d e = (7, e.2.1, e.2.2.1, a4, a5, 0) → x_go b_B_givenBack P 53 [some (xv_r 2 0), some (xv_r 10 p), j2, j3, some (xv_i a4), some (xv_i a5)] [] S 1 6 := by
    intro a4 a5 j2 j3 hg
    obtain ⟨n, -, hn, -⟩ := hK.rf.fr
    have hp1 : x_up S 11 n (.inl (6, xD6)) 10 p = some (.inl (7, gR e)) := by
      rw [x_up_k (by decide)]
      exact hp
    refine x_go.run mn_B_givenBack 20 ?_
    refine ⟨nl rfl, nl rfl, 11, n, nl rfl, hn, ?_⟩
    refine ⟨nl rfl, ⟨_, hp1⟩, rfl, nl rfl, 0, 0, Nat.zero_le _, Nat.zero_le _, c_gmach hp1 ?_⟩
    refine ⟨nl rfl, ⟨_, hp1⟩, rfl, nl rfl, 0, 0, Nat.zero_le _, Nat.zero_le _, c_gtrace hp1 ?_⟩
    refine ⟨rfl, nl rfl, 0, 0, Nat.zero_le _, Nat.zero_le _, c_einit (7, e.2.1, e.2.2.1, a4, a5, 0) (x_up_self _ _ _ _) ?_⟩
    rw [x_up_up, ← hg]
    exact hP n hn
  have no : ∀ (j2 j4 j5 : Option XV), dgb d e = (7, e.2.1, e.2.2.1, 0, 0, 0) → x_go b_B_givenBack P 23 [some (xv_r 2 0), some (xv_r 10 p), j2, none, j4, j5] [] S 1 6 := by
    intro j2 j4 j5 hg
    refine x_go.run mn_B_givenBack 8 ?_
    refine ⟨fun _ => ?_, fun c => (c rfl).elim⟩
    refine ⟨fun _ => ?_, fun c => (c rfl).elim⟩
    exact x_go.run mn_B_givenBack 2 (fin 0 0 _ _ hg)
  refine x_go.run mn_B_givenBack 10 ?_
  refine ⟨nl rfl, ⟨_, hbo⟩, rfl, nl rfl, 0, 0, Nat.zero_le _, Nat.zero_le _, c_bfind hK hb hp (fun z => ?_) (fun x p' z hx => ?_)⟩
  · refine x_go.back mn_B_givenBack (x_go.run mn_B_givenBack 3 (no _ _ _ ?_))
    unfold dgb
    rw [if_neg (fun y => y.1 z), if_neg (fun y => y.1 z)]
  · refine ⟨nl rfl, ⟨_, hx⟩, rfl, nl rfl, 0, 0, Nat.zero_le _, Nat.zero_le _, c_eans hx ?_⟩
    refine ⟨fun c => x_go.back mn_B_givenBack (no _ _ _ ?_), fun c => ?_⟩
    · unfold dgb
      have hn : ¬ (fR (d.2 4) 6 e.2.1 e.2.2.1 ≠ none ∧ oans (fR (d.2 4) 6 e.2.1 e.2.2.1) = 0) := fun y => c (by
        have := y.2
        rw [z] at this
        exact this)
      rw [if_neg hn, if_neg hn]
    · have c : x.2.2.2.2.2 = 0 := Classical.not_not.mp c
      have hg : dgb d e = (7, e.2.1, e.2.2.1, x.2.2.2.1, e.2.2.2.2.1, 0) := by
        have hy : fR (d.2 4) 6 e.2.1 e.2.2.1 ≠ none ∧ oans (fR (d.2 4) 6 e.2.1 e.2.2.1) = 0 := by
          rw [z]
          exact ⟨by simp, c⟩
        unfold dgb
        rw [if_pos hy, if_pos hy, z]
        rfl
      refine x_go.back mn_B_givenBack (x_go.run mn_B_givenBack 10 ?_)
      refine ⟨fun y => absurd y (by decide), fun _ => ?_⟩
      refine ⟨nl rfl, ⟨_, hx⟩, rfl, nl rfl, 0, 0, Nat.zero_le _, Nat.zero_le _, c_eacc hx ?_⟩
      refine x_go.back mn_B_givenBack (x_go.run mn_B_givenBack 10 ?_)
      refine ⟨fun y => absurd y (by decide), fun _ => ?_⟩
      refine ⟨nl rfl, ⟨_, hp⟩, rfl, nl rfl, 0, 0, Nat.zero_le _, Nat.zero_le _, c_gamt hp ?_⟩
      exact x_go.back mn_B_givenBack (x_go.run mn_B_givenBack 2 (fin _ _ _ _ hg))
theorem c_ansRev (hK : KS d S) (hro : ro S) (hb : Bok (d.2 4)) (hl4 : (d.2 4).length ≤ 1100) (h5 : (d.2 5).length ≤ 3000) (hp : S 10 p = some (.inl (7, gR e))) (ht : e.1 = 420)
    (h1 : (dbank d e).2 = true → kT (dbank d e).1 S 14 P) (h0 : (dbank d e).2 = false → kN (dbank d e).1 S (fun S' => P (.inl none) S')) : Y_B_answerReversal 5 6167 [xv_r 2 0, xv_r 10 p] S P := by
  obtain ⟨q0, q1, hbo⟩ := hK.bobj
  obtain ⟨fj, hj⟩ := hK.j4
  unfold dbank at h0 h1
  rw [if_neg (by rw [ht]; decide), if_pos ht] at h0 h1
  refine x_go.run mn_B_answerReversal 30 ?_
  refine ⟨nl rfl, ⟨_, hbo⟩, rfl, nl rfl, 0, 0, Nat.zero_le _, Nat.zero_le _, c_bfind hK hb hp (fun z => ?_) (fun x p' z hx => ?_)⟩
  · rw [if_pos z] at h0 h1
    refine ⟨nl rfl, _, _, hbo, rfl, ?_⟩
    refine ⟨nl rfl, ⟨_, hj⟩, rfl, nl rfl, 0, 0, Nat.zero_le _, Nat.zero_le _, c_bfull hK hl4 ?_⟩
    refine ⟨fun _ => ?_, fun c => (c (by decide)).elim⟩
    refine ⟨nl rfl, _, _, hbo, rfl, ?_⟩
    refine ⟨nl rfl, ⟨_, hbo⟩, rfl, nl rfl, 1, 6, nl rfl, nl rfl, c_givenBack hK hb hp fun n hn => ?_⟩
    have k3 := hK.new hn (.inl (6, eR (dgb d e)))
    have p3 : x_up S 11 n (.inl (6, eR (dgb d e))) 11 n = some (.inl (6, eR (dgb d e))) := x_up_self _ _ _ _
    have f3 : fc S (x_up S 11 n (.inl (6, eR (dgb d e)))) := fc.rf.up (Or.inl (by decide))
    have hp3 : x_up S 11 n (.inl (6, eR (dgb d e))) 10 p = some (.inl (7, gR e)) := by
      rw [x_up_k (by decide)]
      exact hp
    generalize x_up S 11 n (.inl (6, eR (dgb d e))) = S3 at k3 p3 f3 hp3 ⊢
    obtain ⟨fj3, hj3⟩ := k3.j4
    refine ⟨nl rfl, ⟨_, hj3⟩, rfl, nl rfl, 2, 1656, nl rfl, nl rfl, c_bwr k3 p3 hl4 (hro.fc f3).2.2.2.2.2 (Nat.le_refl _) (Nat.le_refl _) (fun hf => ?_) (fun hf S4 k4 f4 g4 g4' => ?_)⟩
    · rw [dthen_t hf] at h1
      exact (h1 hf).tr f3
    · rw [dthen_f hf] at h0
      have h0 := h0 rfl
      have hp4 : S4 10 p = some (.inl (7, gR e)) := by
        rw [g4]
        exact hp3
      obtain ⟨q0, q1, hbo4⟩ := k4.bobj
      refine ⟨nl rfl, ⟨_, hbo4⟩, rfl, nl rfl, 2, 4505, nl rfl, nl rfl, c_reply (ty := 430) k4.kw hp4 (by rw [drec_ne (by decide)]; exact h5) (hro.fc (f3.tr f4)).2.2.2.2.2 fun S5 k f => ?_⟩
      exact h0 S5 (k.ks (cwrong_x (Or.inl (by show ¬ (430 : Int32) = 510; decide))).symm) (f3.tr (f4.tr f))
  · rw [if_neg (by rw [z]; simp)] at h0
    refine ⟨nl rfl, ⟨_, hbo⟩, rfl, nl rfl, 2, 4505, nl rfl, nl rfl, c_reply (ty := 430) hK.kw hp h5 hro.2.2.2.2.2 fun S' k f => ?_⟩
    exact h0 rfl S' (k.ks (cwrong_x (Or.inl (by show ¬ (430 : Int32) = 510; decide))).symm) f
end CS
