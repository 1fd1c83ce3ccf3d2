/-! the BANK -/
def KW (d : DS) (w : Int32) (S : XH) : Prop := ∃ q s cp ls, RC q s cp ls S ∧ CB d q ls ∧ (∀ m, m < 4 → CM d q s ls m) ∧ CK d q ∧ q 0 1 = w ∧ capok d cp ∧ RF S
section CQ
variable {q : Nat → Nat → Int32} {s cp : Nat → Nat} {ls : Nat → List R6} {S : XH} {P : XP} {d : DS} {e : R6} {p : Nat} {wr : Int32}
theorem KW.ks (h : KW d wr S) (hw : wr = cwrong (d.2 5)) : KS d S := by
  obtain ⟨q, s, cp, ls, h1, h2, h3, h4, h5, h6, h7⟩ := h
  exact ⟨q, s, cp, ls, h1, ⟨h2, h3, h4, h5.trans hw⟩, h6, h7⟩
theorem KS.kw (h : KS d S) : KW d (cwrong (d.2 5)) S := by
  obtain ⟨q, s, cp, ls, h1, ⟨h2, h3, h4, h5⟩, h6, h7⟩ := h
  exact ⟨q, s, cp, ls, h1, h2, h3, h4, h5, h6, h7⟩
theorem KS.new (h : KS d S) {n : Nat} (hn : S 11 n = none) (c : XC) : KS d (x_up S 11 n c) := by
  obtain ⟨q, s, cp, ls, h1, h2, h3, h4⟩ := h
  exact ⟨q, s, cp, ls, h1.sub (xsub.rf.new hn), h2, h3, h4.up⟩
theorem KS.bobj (h : KS d S) : ∃ q0 q1, S 2 0 = some (.inl (2, [xv_r 1 0, xv_r 4 4, xv_r 8 1, xv_i q0, xv_i q1])) := by
  obtain ⟨q, s, cp, ls, h1, -⟩ := h
  exact ⟨q 0 0, q 0 1, h1.2.2.1⟩
theorem KW.bobj (h : KW d wr S) : ∃ q0, S 2 0 = some (.inl (2, [xv_r 1 0, xv_r 4 4, xv_r 8 1, xv_i q0, xv_i wr])) := by
  obtain ⟨q, s, cp, ls, h1, -, -, -, rfl, -⟩ := h
  exact ⟨q 0 0, h1.2.2.1⟩
theorem KS.j4 (h : KS d S) : ∃ fs, S 4 4 = some (.inl (4, fs)) := by
  obtain ⟨q, s, cp, ls, h1, -⟩ := h
  exact ⟨_, h1.2.2.2.2.1 4 (by decide)⟩
theorem KW.net (h : KW d wr S) : ∃ fs, S 1 0 = some (.inl (1, fs)) := by
  obtain ⟨q, s, cp, ls, h1, -⟩ := h
  exact ⟨_, h1.2.1⟩
theorem c_jfind {w : Nat} {l : List R6} {kind mach tr : Int32} (hR : RC q s cp ls S) (hw : w < 5) (hls : ls w = l) (hun : Un l)
    (h0 : fR l kind mach tr = none → P (.inl (some xv_n)) S) (h1 : ∀ x p, fR l kind mach tr = some x → S 11 p = some (.inl (6, eR x)) → P (.inl (some (xv_r 11 p))) S) : Y_J_find 0 0 [xv_r 4 w, xv_i kind, xv_i mach, xv_i tr] S P := by
  subst hls
  exact c_find hR hw (fun z => h0 (fR_none.mpr z)) fun i hi p z _ hp => h1 _ p (hun.at hi z) hp
theorem c_bfind {kind : Int32} (hK : KS d S) (hb : Bok (d.2 4)) (hp : S 10 p = some (.inl (7, gR e)))
    (h0 : fR (d.2 4) kind e.2.1 e.2.2.1 = none → P (.inl (some xv_n)) S) (h1 : ∀ x p, fR (d.2 4) kind e.2.1 e.2.2.1 = some x → S 11 p = some (.inl (6, eR x)) → P (.inl (some (xv_r 11 p))) S) : Y_B_find 0 0 [xv_r 2 0, xv_i kind, xv_r 10 p] S P := by
  obtain ⟨q, s, cp, ls, hR, hA, hc, hF⟩ := hK
  refine x_go.run mn_B_find 12 ?_
  refine ⟨nl rfl, _, _, hR.2.2.1, rfl, ?_⟩
  refine ⟨nl rfl, ⟨_, hp⟩, rfl, nl rfl, 0, 0, Nat.zero_le _, Nat.zero_le _, c_gmach hp ?_⟩
  refine ⟨nl rfl, ⟨_, hp⟩, rfl, nl rfl, 0, 0, Nat.zero_le _, Nat.zero_le _, c_gtrace hp ?_⟩
  exact ⟨nl rfl, ⟨_, hR.2.2.2.2.1 4 (by decide)⟩, rfl, nl rfl, 0, 0, Nat.zero_le _, Nat.zero_le _, c_jfind hR (by decide) (hA.1.1 4 (by decide)) hb.un h0 h1⟩
/-- a RECORD of the BANK -/
theorem c_bwr {mc ms : Nat} {x : R6} (hK : KS d S) (hp : S 11 p = some (.inl (6, eR x))) (hl : (d.2 4).length ≤ 1100) (h54 : rk S) (hmc : 2 ≤ mc) (hms : 1656 ≤ ms)
    (h1 : dfailsb d 4 = true → kT (drec d 4 x) S 14 P)
    (h0 : dfailsb d 4 = false → ∀ S', KS (drec d 4 x) S' → fc S S' → S' 10 = S 10 → S' 11 = S 11 → P (.inl none) S') : Y_J_write mc ms [xv_r 4 4, xv_r 11 p] S P := by
  obtain ⟨q, s, cp, ls, hR, hA, hc, hF⟩ := hK
  have hls : ls 4 = d.2 4 := hA.1.1 4 (by decide)
  have hful : full (ls 4) (cp 4) * gc (cp 4) ≤ 1650 := by
    unfold full
    split
    · next z =>
      rw [hls] at z
      unfold gc
      split
      · decide
      · omega
    · omega
  have hks : ∀ q' cp' ls' S', RC q' s cp' ls' S' → CB (drec d 4 x) q' ls' → wst 4 q cp ls S q' cp' ls' S' → KS (drec d 4 x) S' := by
    intro q' cp' ls' S' r hb ⟨w1, w2, w3, w4, w5, w6, w7⟩
    refine ⟨q', s, cp', ls', r, ⟨hb, fun m' hm' => (hA.2.1 m' hm').keep (by rw [drec_10, if_neg (fun z => z.2.1 rfl)]) (drec_ne (by omega)) (by rw [w1 3 (by omega)]) (by rw [w1 4 (by omega)]) rfl (by rw [w2 _ (by omega)]), ?_, hA.2.2.2.keep (drec_ne (by decide)) (by rw [w1 0 (by omega)])⟩, ⟨fun j hj => ?_, fun j hj hj' => ?_, ?_⟩, w7⟩
    · obtain ⟨bk, b1, b2, b3⟩ := hA.2.2.1
      have ht : bk ≤ ((drec d 4 x).2 4).length ∧ ((drec d 4 x).2 4).take bk = (d.2 4).take bk := by
        rcases drec_self d 4 x with z | z
        · rw [z]
          exact ⟨b1, rfl⟩
        · rw [z, List.length_append]
          exact ⟨by omega, List.take_append_of_le_length b1⟩
      refine ⟨bk, ht.1, by rw [w1 0 (by omega)]; exact b2, fun a ha => ?_⟩
      rw [w1 13 (by omega), ht.2]
      exact b3 a ha
    · rcases w3 j with z | ⟨z1, z2, z3⟩
      · rw [z]
        exact hc.1 j hj
      · subst z1
        rw [z3]
        rw [hls] at z2
        unfold gc
        split
        · decide
        · omega
    · rcases w3 j with z | ⟨z1, z2, z3⟩
      · rw [z]
        exact hc.2.1 j hj hj'
      · omega
    · rcases w3 5 with z | ⟨z1, z2, z3⟩
      · rw [z, drec_ne (by omega)]
        exact hc.2.2
      · omega
  refine c_write (w := 4) hR hA.1 (by decide) hp (by rw [hls]; omega) hF h54 hmc (by omega) (fun hf q' cp' ls' S' r b w => ?_) (fun hf q' cp' ls' S' nx r b w hn => ?_)
  · exact h0 hf S' (hks q' cp' ls' S' r b w) w.2.2.2.1 w.2.2.2.2.1 w.2.2.2.2.2.1
  · exact h1 hf S' nx (hks q' cp' ls' S' r b w) w.2.2.2.1 hn
theorem c_bsd {mc ms : Nat} (x : R6) (h : KW d wr S) (hl : (d.2 5).length ≤ 3000) (h54 : rk S) (hmc : (d.2 5).length < 3000 → nK ((d.2 5).length + 1) - nK (d.2 5).length ≤ mc) (hms : (d.2 5).length < 3000 → nS ((d.2 5).length + 1) - nS (d.2 5).length ≤ ms)
    (hP : ∀ S', KW (dsent d x) wr S' → fc S S' → S' 11 = S 11 → P (.inl (some (xv_i (if (d.2 5).length < 3000 then 1 else 0)))) S') :
    Y_N_send mc ms [xv_r 1 0, xv_r 50 (tyN x.1), xv_i x.2.1, xv_i x.2.2.1, xv_i x.2.2.2.1, xv_i x.2.2.2.2.1, xv_i x.2.2.2.2.2] S P := by
  obtain ⟨q, s, cp, ls, hR, hB, hM, hK, hw, hc, hF⟩ := h
  have hls : ls 5 = d.2 5 := hB.1 5 (by omega)
  have hcp : cp 5 = nc (d.2 5).length := hc.2.2
  refine c_send x hR hB hl hF h54 (fun z => ?_) (fun z => ?_) fun cp' ls' S' r b ⟨w1, w2, w3, w4, w5, w6, w7⟩ => ?_
  · rw [hls] at z ⊢
    have := hmc z
    have e1 : nK ((d.2 5).length + 1) = nK (d.2 5).length + 1 + (if (d.2 5).length = nc (d.2 5).length then 1 else 0) := rfl
    unfold full
    rw [hcp]
    omega
  · rw [hls] at z ⊢
    have := hms z
    have e1 : nS ((d.2 5).length + 1) = nS (d.2 5).length + 6 + (if (d.2 5).length = nc (d.2 5).length then gc (nc (d.2 5).length) else 0) := rfl
    unfold full
    rw [hcp]
    by_cases y : (d.2 5).length = nc (d.2 5).length
    · rw [if_pos y] at e1 ⊢
      omega
    · rw [if_neg y] at e1 ⊢
      omega
  · refine hP S' ⟨q, s, cp', ls', r, b, fun m' hm' => (hM m' hm').keep (by rw [dsent_1]) (dsent_ne (by omega)) rfl rfl rfl (w1 _ (by omega)), hK.keep (dsent_ne (by decide)) rfl rfl, hw, ⟨fun j hj => by rw [w2 j (by omega)]; exact hc.1 j hj, fun j hj hj' => by rw [w2 j (by omega)]; exact hc.2.1 j hj hj', ?_⟩, w7⟩ w4 w6
    rw [w3, hls, dsent_len, hcp]
    by_cases z : (d.2 5).length = 3000
    · rw [if_pos z, if_neg (by omega)]
    · rw [if_neg z]
      show _ = if _ then _ else _
      by_cases y : (d.2 5).length = nc (d.2 5).length
      · rw [if_pos ⟨by omega, y⟩, if_pos y]
      · rw [if_neg (fun x => y x.2), if_neg y]
theorem c_reply {ty ans : Int32} (h : KW d wr S) (hp : S 10 p = some (.inl (7, gR e))) (hl : (d.2 5).length ≤ 3000) (h54 : rk S)
    (hP : ∀ S', KW (dsent d (ty, e.2.1, e.2.2.1, 0, 0, ans)) wr S' → fc S S' → P (.inl (some (xv_i (if (d.2 5).length < 3000 then 1 else 0)))) S') : Y_B_reply 2 4505 [xv_r 2 0, xv_r 50 (tyN ty), xv_r 10 p, xv_i ans] S P := by
  obtain ⟨q0, hb⟩ := h.bobj
  obtain ⟨fn, hnet⟩ := h.net
  refine x_go.run mn_B_reply 15 ?_
  refine ⟨nl rfl, _, _, hb, rfl, ?_⟩
  refine ⟨nl rfl, ⟨_, hp⟩, rfl, nl rfl, 0, 0, Nat.zero_le _, Nat.zero_le _, c_gmach hp ?_⟩
  refine ⟨nl rfl, ⟨_, hp⟩, rfl, nl rfl, 0, 0, Nat.zero_le _, Nat.zero_le _, c_gtrace hp ?_⟩
  refine ⟨nl rfl, ⟨_, hnet⟩, rfl, nl rfl, 2, 4505, nl rfl, nl rfl, c_bsd (ty, e.2.1, e.2.2.1, 0, 0, ans) h hl h54 (fun z => (nS_step z).2) (fun z => (nS_step z).1) fun S' k f _ => ?_⟩
  refine ⟨?_, hP S' k f⟩
  split
  · exact Or.inr rfl
  · exact Or.inl rfl
/-- an object that stands in no list -/
theorem RC.swap {q' : Nat → Nat → Int32} {S0 S' : XH} {n : Nat} (h : RC q' s cp ls S') (h0 : RC q s cp ls S0) (hk : ∀ k, k ≠ 2 → k ≠ 8 → k ≠ 11 → S' k = S0 k) (hi : ∀ i, i ≠ n → S' 11 i = S0 11 i) (hn : S0 11 n = none) (c : XC) : RC q' s cp ls (x_up S' 11 n c) := by
  obtain ⟨a0, a1, a2, a3, a4, a5, a6, ⟨f, a7, a7'⟩, a8⟩ := h
  refine ⟨by rw [x_up_k (by decide)]; exact a0, by rw [x_up_k (by decide)]; exact a1, by rw [x_up_k (by decide)]; exact a2, fun m hm => by rw [x_up_k (by decide)]; exact a3 m hm, fun m hm => by rw [x_up_k (by decide)]; exact a4 m hm, fun m hm => by rw [x_up_k (by decide)]; exact a5 m hm, fun m hm => by rw [x_up_k (by decide)]; exact a6 m hm, ⟨f, by rw [x_up_k (by decide)]; exact a7, a7'⟩, fun j hj => ?_⟩
  refine (h0.2.2.2.2.2.2.2.2 j hj).keep (by rw [x_up_k (by decide), hk 6 (by decide) (by decide) (by decide)]) (by rw [x_up_k (by omega), hk (20 + j) (by omega) (by omega) (by omega)]) (by rw [x_up_k (by decide), hk 54 (by decide) (by decide) (by decide)]) fun p c' hc => ?_
  by_cases e5 : lk j = 10
  · rw [e5] at hc ⊢
    rw [x_up_k (by decide), hk 10 (by decide) (by decide) (by decide)]
    exact hc
  · have e : lk j = 11 := by
      unfold lk at e5 ⊢
      split at e5
      · exact (e5 rfl).elim
      · next z => rw [if_neg z]
    rw [e] at hc ⊢
    have : p ≠ n := by
      rintro rfl
      rw [hn] at hc
      cases hc
    rw [x_up_ne (fun z => this z.2), hi p this]
    exact hc
/-- what is answered to a request that has no answer yet -/
theorem c_decide {a n : Nat} {S0 : XH} {c0 : XC} (hK : KS d S0) (hn : S0 11 n = none) (hb : Bok (d.2 4)) (hp : S0 10 p = some (.inl (7, gR e))) (ha : e.2.2.2.1 = Int32.ofNat a) (ha' : a < 200)
    (hP : ∀ S', (∀ c, KS d (x_up S' 11 n c)) → S' 11 n = some c0 → fc S0 S' → S' 10 = S0 10 → P (.inl (some (xv_i (if fR (d.2 4) 7 e.2.1 e.2.2.1 = none then (if worthOf (d.2 4) e.2.2.2.1 < e.2.2.2.2.1 then 1 else 0) else 3)))) S') : Y_B_decide 0 0 [xv_r 2 0, xv_r 10 p] (x_up S0 11 n c0) P := by
  have hK1 := hK.new hn c0
  have hp1 : x_up S0 11 n c0 10 p = some (.inl (7, gR e)) := by
    rw [x_up_k (by decide)]
    exact hp
  have f1 : fc S0 (x_up S0 11 n c0) := fc.rf.up (Or.inl (by decide))
  obtain ⟨q, s, cp, ls, hR0, hA, hc, hF⟩ := id hK
  have hR : RC q s cp ls (x_up S0 11 n c0) := hR0.sub (xsub.rf.new hn)
  have hFx : RF (x_up S0 11 n c0) := hF.up
  obtain ⟨q0, q1, hbo⟩ := hK1.bobj
  refine x_go.run mn_B_decide 20 ?_
  refine ⟨nl rfl, ⟨_, hbo⟩, rfl, nl rfl, 0, 0, Nat.zero_le _, Nat.zero_le _, c_bfind hK1 hb hp1 (fun z => ?_) (fun x p' z _ => ?_)⟩
  · rw [if_pos z] at hP
    refine ⟨nl rfl, ⟨_, hp1⟩, rfl, nl rfl, 0, 0, Nat.zero_le _, Nat.zero_le _, c_gacc hp1 ?_⟩
    rw [ha]
    refine ⟨nl rfl, ⟨_, hbo⟩, rfl, nl rfl, 0, 0, Nat.zero_le _, Nat.zero_le _, c_balanceOf hR hA hc hFx hb ha' fun q' S' r a f g gk _ => ?_⟩
    have hp' : S' 10 p = some (.inl (7, gR e)) := by
      rw [gk 10 (by decide) (by decide)]
      exact hp1
    have hP := hP S' (fun c => ⟨q', s, cp, ls, r.swap hR0 (fun k a b c => by rw [gk k a b, x_up_k c]) (fun i hi => by rw [gk 11 (by decide) (by decide), x_up_ne (fun z => hi z.2)]) hn c, a, hc, f.up⟩) (by rw [gk 11 (by decide) (by decide), x_up_self]) (f1.tr g) (by rw [gk 10 (by decide) (by decide), x_up_k (by decide)])
    refine ⟨nl rfl, ⟨_, hp'⟩, rfl, nl rfl, 0, 0, Nat.zero_le _, Nat.zero_le _, c_gamt hp' ?_⟩
    rw [ha] at hP
    refine ⟨fun c => ?_, fun c => ?_⟩
    · rw [if_neg (Int32.not_lt.mpr c)] at hP
      exact hP
    · rw [if_pos (Int32.not_le.mp c)] at hP
      exact hP
  · rw [if_neg (by rw [z]; simp)] at hP
    exact hP _ (fun c => by rw [x_up_up]; exact hK.new hn c) (x_up_self _ _ _ _) f1 (x_up_k (by decide))
end CQ
