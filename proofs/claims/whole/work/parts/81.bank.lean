section CR
variable {q : Nat → Nat → Int32} {s cp : Nat → Nat} {ls : Nat → List R6} {S : XH} {P : XP} {d : DS} {e : R6} {p : Nat} {wr : Int32}
theorem c_bfull (hK : KS d S) (hl : (d.2 4).length ≤ 1100) (h : P (.inl (some (xv_i 1))) S) : Y_J_hasRoomFor 0 0 [xv_r 4 4, xv_i 1] S P := by
  obtain ⟨q, s, cp, ls, hR, hA, hc, hF⟩ := hK
  have hls : ls 4 = d.2 4 := hA.1.1 4 (by decide)
  refine c_room (n := 1) hR (by decide) (by decide) (fun _ => h) (fun z => (z ?_).elim)
  rw [hls, if_pos rfl]
  omega
theorem cwrong_x {x : R6} (h : x.1 ≠ 510 ∨ x.2.2.2.2.2 = 0) : cwrong ((dsent d x).2 5) = cwrong (d.2 5) := by
  unfold dsent
  split
  · rfl
  · rw [dapp_self]
    unfold cwrong
    rw [List.filter_append, List.filter_cons_of_neg, List.filter_nil, List.append_nil]
    rcases h with h | h <;> simp [h]
theorem c_ansReq {a : Nat} (hK : KS d S) (hro : ro S) (hb : Bok (d.2 4)) (hl4 : (d.2 4).length ≤ 1100) (h5 : (d.2 5).length ≤ 3000) (hp : S 10 p = some (.inl (7, gR e))) (ht : e.1 = 200) (ha : e.2.2.2.1 = Int32.ofNat a) (ha' : a < 200)
    (h1 : (dbank d e).2 = true → kT (dbank d e).1 S 14 P) (h0 : (dbank d e).2 = false → kN (dbank d e).1 S (fun S' => P (.inl none) S')) : Y_B_answerRequest 5 6167 [xv_r 2 0, xv_r 10 p] S P := by
  obtain ⟨q0, q1, hbo⟩ := hK.bobj
  obtain ⟨fj, hj⟩ := hK.j4
  unfold dbank at h0 h1
  rw [if_pos ht] at h0 h1
  refine x_go.run mn_B_answerRequest 50 ?_
  refine ⟨nl rfl, ⟨_, hbo⟩, rfl, nl rfl, 0, 0, Nat.zero_le _, Nat.zero_le _, c_bfind hK hb hp (fun z => ?_) (fun x p' z hx => ?_)⟩
  · rw [if_pos z] at h0 h1
    have ea : dansB d e = (if fR (d.2 4) 7 e.2.1 e.2.2.1 = none then (if worthOf (d.2 4) e.2.2.2.1 < e.2.2.2.2.1 then 1 else 0) else 3) := by
      unfold dansB
      rw [if_pos z]
    refine ⟨nl rfl, _, _, hbo, rfl, ?_⟩
    refine ⟨nl rfl, ⟨_, hj⟩, rfl, nl rfl, 0, 0, Nat.zero_le _, Nat.zero_le _, c_bfull hK hl4 ?_⟩
    refine ⟨fun _ => ?_, fun c => (c (by decide)).elim⟩
    obtain ⟨n, -, hn, -⟩ := hK.rf.fr
    refine ⟨nl rfl, nl rfl, 11, n, nl rfl, hn, ?_⟩
    have k1 := hK.new hn (.inl (6, xD6))
    have hp1 : x_up S 11 n (.inl (6, xD6)) 10 p = some (.inl (7, gR e)) := by
      rw [x_up_k (by decide)]
      exact hp
    obtain ⟨q0, q1, hbo1⟩ := k1.bobj
    refine ⟨nl rfl, ⟨_, hp1⟩, rfl, nl rfl, 0, 0, Nat.zero_le _, Nat.zero_le _, c_gmach hp1 ?_⟩
    refine ⟨nl rfl, ⟨_, hp1⟩, rfl, nl rfl, 0, 0, Nat.zero_le _, Nat.zero_le _, c_gtrace hp1 ?_⟩
    refine ⟨nl rfl, ⟨_, hp1⟩, rfl, nl rfl, 0, 0, Nat.zero_le _, Nat.zero_le _, c_gacc hp1 ?_⟩
    refine ⟨nl rfl, ⟨_, hp1⟩, rfl, nl rfl, 0, 0, Nat.zero_le _, Nat.zero_le _, c_gamt hp1 ?_⟩
    refine ⟨nl rfl, ⟨_, hbo1⟩, rfl, nl rfl, 0, 0, Nat.zero_le _, Nat.zero_le _, c_decide hK hn hb hp ha ha' fun S2 k2 p2 f2 g10 => ?_⟩
    rw [← ea]
    refine ⟨rfl, nl rfl, 0, 0, Nat.zero_le _, Nat.zero_le _, c_einit (6, e.2.1, e.2.2.1, e.2.2.2.1, e.2.2.2.2.1, dansB d e) p2 ?_⟩
    have k3 := k2 (.inl (6, eR (6, e.2.1, e.2.2.1, e.2.2.2.1, e.2.2.2.2.1, dansB d e)))
    have p3 : x_up S2 11 n (.inl (6, eR (6, e.2.1, e.2.2.1, e.2.2.2.1, e.2.2.2.2.1, dansB d e))) 11 n = some (.inl (6, eR (6, e.2.1, e.2.2.1, e.2.2.2.1, e.2.2.2.2.1, dansB d e))) := x_up_self _ _ _ _
    have f3 : fc S (x_up S2 11 n (.inl (6, eR (6, e.2.1, e.2.2.1, e.2.2.2.1, e.2.2.2.2.1, dansB d e)))) := f2.tr (fc.rf.up (Or.inl (by decide)))
    have hp3 : x_up S2 11 n (.inl (6, eR (6, e.2.1, e.2.2.1, e.2.2.2.1, e.2.2.2.2.1, dansB d e))) 10 p = some (.inl (7, gR e)) := by
      rw [x_up_k (by decide), g10]
      exact hp
    generalize x_up S2 11 n (.inl (6, eR (6, e.2.1, e.2.2.1, e.2.2.2.1, e.2.2.2.2.1, dansB d e))) = S3 at k3 p3 f3 hp3 ⊢
    obtain ⟨q0, q1, hbo3⟩ := k3.bobj
    obtain ⟨fj3, hj3⟩ := k3.j4
    refine ⟨nl rfl, _, _, hbo3, rfl, ?_⟩
    refine ⟨nl rfl, ⟨_, hj3⟩, rfl, nl rfl, 2, 1656, nl rfl, nl rfl, c_bwr k3 p3 hl4 (hro.fc f3).2.2.2.2.2 (Nat.le_refl _) (Nat.le_refl _) (fun hf => ?_) (fun hf S4 k4 f4 g4 g4' => ?_)⟩
    · rw [dthen_t hf] at h1
      exact (h1 hf).tr f3
    · rw [dthen_f hf] at h0
      have h0 := h0 rfl
      have hp4 : S4 10 p = some (.inl (7, gR e)) := by
        rw [g4]
        exact hp3
      have p4 : S4 11 n = some (.inl (6, eR (6, e.2.1, e.2.2.1, e.2.2.2.1, e.2.2.2.2.1, dansB d e))) := by
        rw [g4']
        exact p3
      obtain ⟨q0, q1, hbo4⟩ := k4.bobj
      refine ⟨nl rfl, ⟨_, p4⟩, rfl, nl rfl, 0, 0, Nat.zero_le _, Nat.zero_le _, c_eans p4 ?_⟩
      refine ⟨nl rfl, ⟨_, hbo4⟩, rfl, nl rfl, 2, 4505, nl rfl, nl rfl, c_reply (ty := 210) k4.kw hp4 (by rw [drec_ne (by decide)]; exact h5) (hro.fc (f3.tr f4)).2.2.2.2.2 fun S5 k f => ?_⟩
      exact h0 S5 (k.ks (cwrong_x (Or.inl (by show ¬ (210 : Int32) = 510; decide))).symm) (f3.tr (f4.tr f))
  · rw [if_neg (by rw [z]; simp)] at h0
    have ea : dansB d e = x.2.2.2.2.2 := by
      unfold dansB
      rw [if_neg (by rw [z]; simp), z]
      rfl
    refine ⟨nl rfl, ⟨_, hx⟩, rfl, nl rfl, 0, 0, Nat.zero_le _, Nat.zero_le _, c_eans hx ?_⟩
    refine ⟨nl rfl, ⟨_, hbo⟩, rfl, nl rfl, 2, 4505, nl rfl, nl rfl, c_reply (ty := 210) hK.kw hp h5 hro.2.2.2.2.2 fun S' k f => ?_⟩
    rw [← ea] at k
    exact h0 rfl S' (k.ks (cwrong_x (Or.inl (by show ¬ (210 : Int32) = 510; decide))).symm) f
end CR
