section CW
variable {q : Nat → Nat → Int32} {s cp : Nat → Nat} {ls : Nat → List R6} {S : XH} {P : XP} {d : DS}
theorem RF.fr {S : XH} (h : RF S) : ∃ n, S 10 n = none ∧ S 11 n = none ∧ S 12 n = none := by
  obtain ⟨n, hn⟩ := h
  exact ⟨n, (hn n (Nat.le_refl _)).1, (hn n (Nat.le_refl _)).2.1, (hn n (Nat.le_refl _)).2.2.1⟩
theorem RC.exc (h : RC q s cp ls S) {n : Nat} (hn : S 12 n = none) (c : XC) : RC q s cp ls (x_up S 12 n c) := h.sub (xsub.rf.new hn)
set_option maxHeartbeats 4000000 in
theorem c_write {w p mc ms : Nat} {e : R6} (h : RC q s cp ls S) (hB : CB d q ls) (hw : w < 5) (hp : S 11 p = some (.inl (6, eR e))) (hlen : (ls w).length ≤ 6000) (hF : RF S) (h54 : rk S) (hmc : 2 ≤ mc) (hms : full (ls w) (cp w) * gc (cp w) + 6 ≤ ms)
    (h0 : dfailsb d w = false → ∀ q' cp' ls' S', RC q' s cp' ls' S' → CB (drec d w e) q' ls' → wst w q cp ls S q' cp' ls' S' → P (.inl none) S')
    (h1 : dfailsb d w = true → ∀ q' cp' ls' S' nx, RC q' s cp' ls' S' → CB (drec d w e) q' ls' → wst w q cp ls S q' cp' ls' S' → S' 12 nx = some (.inl (14, [])) → P (.inr (12, nx)) S') :
    Y_J_write mc ms [xv_r 4 w, xv_r 11 p] S P := by
  have hj := h.2.2.2.2.1 w hw
  obtain ⟨b1, b2, b3⟩ := hB.2.2.2.1 w hw
  have hff : dfails d w ↔ (q 7 w ≠ 17 ∧ q 6 w = 0) := by
    unfold dfails
    rw [← i_le16 b2, ← b1]
    exact ⟨fun z => ⟨z.1, by rw [b3 z.1]; exact z.2⟩, fun z => ⟨z.1, by rw [← b3 z.1]; exact z.2⟩⟩
  have e1 : lk w = 11 := if_neg (by omega)
  have e2 : lcl w = 6 := if_neg (by omega)
  have e3 : lR w e = eR e := if_neg (by omega)
  have hful : full (ls w) (cp w) ≤ 1 := by unfold full; split <;> decide
  have hgf : full (ls w) (cp w) * gc (cp w) ≤ gc (cp w) := by
    have := Nat.mul_le_mul_right (gc (cp w)) hful
    omega
  -- behind the add
  have tail : ∀ (f : Int32) (d1 : DS) (cp1 : Nat → Nat) (ls1 : Nat → List R6) (S1 : XH) (u v : Nat), RC q s cp1 ls1 S1 → CB d1 q ls1 → 1 ≤ u → 6 ≤ v → (∀ j, 6 ≤ j → ls1 j = ls j) → (∀ j, cp1 j = cp j ∨ (j = w ∧ (ls w).length = cp w ∧ cp1 j = gc (cp j))) → fc S S1 → S1 10 = S 10 → S1 11 = S 11 → RF S1 →
      (f = 0 → dfailsb d w = false ∧ drec d w e = dset d1 7 w (d1.1 7 w - 1)) → (f = 1 → dfailsb d w = true ∧ drec d w e = doff (dset d1 8 w 17) w) → (f = 0 ∨ f = 1) →
      x_go b_J_write P 44 [some (xv_r 4 w), some (xv_r 11 p), some (xv_i f)] [] S1 u v := by
    intro f d1 cp1 ls1 S1 u v r1 c1 hu hv g1 g2 g3 g4 g5 g6 k0 k1 kf
    have hj1 := r1.2.2.2.2.1 w hw
    refine x_go.run mn_J_write 30 ?_
    refine ⟨fun z => ?_, fun z => ?_⟩
    · obtain ⟨y1, y2⟩ := k0 z
      refine ⟨nl rfl, _, _, hj1, rfl, ?_⟩
      refine ⟨fun z7 => ?_, fun z7 => ?_⟩
      · have z7 : q 7 w = 17 := z7
        have c2 := c1.left hw
        rw [if_neg (fun y => y z7), ← y2] at c2
        exact h0 y1 q cp1 ls1 S1 r1 c2 ⟨fun _ _ => rfl, g1, g2, g3, g4, g5, g6⟩
      · have z7 : q 7 w ≠ 17 := z7
        have c2 := c1.left hw
        rw [if_pos z7, ← y2] at c2
        refine ⟨nl rfl, _, _, hj1, rfl, ?_⟩
        refine ⟨trivial, _, hj1, nl rfl, nl rfl, ?_⟩
        exact h0 y1 _ cp1 ls1 _ (r1.putJ hw (t := 6) ⟨by decide, by decide⟩ (q 6 w - 1)) c2 ⟨fun t ht => gs_ne (by omega), g1, g2, g3.up (Or.inl (by simp)), by rw [x_up_k (by simp)]; exact g4, by rw [x_up_k (by simp)]; exact g5, g6.up⟩
    · obtain ⟨y1, y2⟩ := k1 (kf.resolve_left z)
      refine ⟨trivial, _, hj1, nl rfl, nl rfl, ?_⟩
      have r2 := r1.putJ hw (t := 7) ⟨by decide, by decide⟩ 17
      have hj2 := r2.2.2.2.2.1 w hw
      refine ⟨Or.inl rfl, _, hj2, nl rfl, nl rfl, ?_⟩
      have r3 := r2.putJ hw (t := 5) ⟨by decide, by decide⟩ 0
      have c3 := c1.fail hw
      rw [← y2] at c3
      obtain ⟨nx, -, -, hnx⟩ := g6.up.up.fr
      have r4 := r3.exc hnx (.inl (14, []))
      exact ⟨nl rfl, hu, hv, 12, nx, nl rfl, hnx, h1 y1 _ cp1 ls1 _ nx r4 c3 ⟨fun t ht => by rw [gs_ne (by omega), gs_ne (by omega)], g1, g2, ((g3.up (Or.inl (by simp))).up (Or.inl (by simp))).up (Or.inl (by simp)), by rw [x_up_k (by simp), x_up_k (by simp), x_up_k (by simp)]; exact g4, by rw [x_up_k (by simp), x_up_k (by simp), x_up_k (by simp)]; exact g5, g6.up.up.up⟩ (x_up_self _ _ _ _)⟩
  have put : ∀ (f : Int32), (f = 0 → dfailsb d w = false) → (f = 1 → dfailsb d w = true ∧ d.1 8 w = 16) → (f = 0 ∨ f = 1) → x_go b_J_write P 35 [some (xv_r 4 w), some (xv_r 11 p), some (xv_i f)] [] S mc ms := by
    intro f k0 k1 kf
    have hl := h.2.2.2.2.2.2.2.2 w (by omega)
    obtain ⟨fs, hfs⟩ := hl.obj
    refine x_go.run mn_J_write 5 ?_
    refine ⟨nl rfl, _, _, hj, rfl, ?_⟩
    refine ⟨nl rfl, ⟨_, hfs⟩, rfl, nl rfl, full (ls w) (cp w), full (ls w) (cp w) * gc (cp w), by omega, by omega, ?_⟩
    have hp' : S (lk w) p = some (.inl (lcl w, lR w e)) := by rw [e1, e2, e3]; exact hp
    have ka := c_add hl (by omega) hp' hlen hF h54 (P := x_aft (x_run b_J_write P (x_go b_J_write P) 1) P [] (35 + 1 + 3 + 1 + 3) [some (xv_r 4 w), some (xv_r 11 p), some (xv_i f)] [] (mc - full (ls w) (cp w)) (ms - full (ls w) (cp w) * gc (cp w))) fun S1 a1 a2 a3 => ?_
    · rw [e1] at ka
      exact ka
    · refine tail f (dapp d w e) _ _ S1 _ _ (h.lst (by omega) a1 a2) ?_ (by omega) (by omega) (fun j hj => if_neg (by omega)) (fun j => ?_) (a2.fc (by omega)) (a2.k (by decide) (by omega)) (a2.k (by decide) (by omega)) a3 (fun z => ⟨k0 z, ?_⟩) (fun z => ⟨(k1 z).1, ?_⟩) kf
      · have := hB.app (w := w) (e := e) (by omega)
        have e : (fun k => if k = w then ls k ++ [e] else ls k) = (fun k => if k = w then ls w ++ [e] else ls k) := by
          funext k
          split
          · next z => rw [z]
          · rfl
        rw [← e]
        exact this
      · by_cases ej : j = w
        · subst ej
          by_cases ef : (ls j).length = cp j
          · exact Or.inr ⟨rfl, ef, by rw [if_pos rfl, if_pos ef]⟩
          · exact Or.inl (by rw [if_pos rfl, if_neg ef])
        · exact Or.inl (if_neg ej)
      · unfold drec
        rw [if_neg (by rw [k0 z]; decide)]
        rfl
      · unfold drec
        rw [if_pos (k1 z).1, if_pos (k1 z).2]
  refine x_go.run mn_J_write 20 ?_
  refine ⟨nl rfl, _, _, hj, rfl, ?_⟩
  have nof : ¬ dfails d w → dfailsb d w = false := fun z => by
    have : ¬ dfailsb d w = true := fun y => z (dfailsb_iff.mp y)
    simpa using this
  refine ⟨fun z => ?_, fun z => ?_⟩
  · have hn : dfailsb d w = false := nof fun y => (hff.mp y).1 z
    exact ⟨fun _ => x_go.back mn_J_write (put 0 (fun _ => hn) (fun y => absurd y (by decide)) (Or.inl rfl)), fun y => (y rfl).elim⟩
  · refine ⟨nl rfl, _, _, hj, rfl, ?_⟩
    refine ⟨fun z6 => ?_, fun z6 => ?_⟩
    · have hn : dfailsb d w = false := nof fun y => z6 (hff.mp y).2
      exact ⟨fun _ => x_go.back mn_J_write (put 0 (fun _ => hn) (fun y => absurd y (by decide)) (Or.inl rfl)), fun y => (y rfl).elim⟩
    · have hy : dfailsb d w = true := dfailsb_iff.mpr (hff.mpr ⟨z, Classical.not_not.mp z6⟩)
      refine ⟨fun y => absurd y (by decide), fun _ => ?_⟩
      refine ⟨nl rfl, _, _, hj, rfl, ?_⟩
      refine ⟨fun z16 => ?_, fun z16 => ?_⟩
      · have z16 : ¬ d.1 8 w = 16 := fun y => z16 (by show q 7 w = 16; rw [b1]; exact y)
        refine x_go.back mn_J_write (tail 1 d cp ls S mc ms h hB (by omega) (by omega) (fun _ _ => rfl) (fun _ => Or.inl rfl) fc.rf rfl rfl hF (fun y => absurd y (by decide)) (fun _ => ⟨hy, ?_⟩) (Or.inr rfl))
        unfold drec
        rw [if_pos hy, if_neg z16]
      · have z16 : d.1 8 w = 16 := by
          rw [← b1]
          exact Classical.not_not.mp z16
        exact x_go.back mn_J_write (put 1 (fun y => absurd y (by decide)) (fun _ => ⟨hy, z16⟩) (Or.inr rfl))
/-- behind a send -/
def sst (q : Nat → Nat → Int32) (cp : Nat → Nat) (ls : Nat → List R6) (S : XH) (cp' : Nat → Nat) (ls' : Nat → List R6) (S' : XH) : Prop :=
  (∀ j, j ≠ 5 → ls' j = ls j) ∧ (∀ j, j ≠ 5 → cp' j = cp j) ∧ cp' 5 = (if (ls 5).length < 3000 ∧ (ls 5).length = cp 5 then gc (cp 5) else cp 5) ∧ fc S S' ∧ (∀ p c, S 10 p = some c → S' 10 p = some c) ∧ S' 11 = S 11 ∧ RF S'
theorem CB.sent (h : CB d q ls) {e : R6} (hl : (d.2 5).length < 3000) : CB (dsent d e) q (fun k => if k = 5 then ls 5 ++ [e] else ls k) := by
  unfold dsent
  rw [if_neg (by omega)]
  have := h.app (w := 5) (e := e) (by decide)
  have e : (fun k => if k = 5 then ls k ++ [e] else ls k) = (fun k => if k = 5 then ls 5 ++ [e] else ls k) := by
    funext k
    split
    · next z => rw [z]
    · rfl
  rw [← e]
  exact this
theorem c_send {mc ms : Nat} (e : R6) (h : RC q s cp ls S) (hB : CB d q ls) (hl : (d.2 5).length ≤ 3000) (hF : RF S) (h54 : rk S) (hmc : (ls 5).length < 3000 → 1 + full (ls 5) (cp 5) ≤ mc) (hms : (ls 5).length < 3000 → 6 + full (ls 5) (cp 5) * gc (cp 5) ≤ ms)
    (hP : ∀ cp' ls' S', RC q s cp' ls' S' → CB (dsent d e) q ls' → sst q cp ls S cp' ls' S' → P (.inl (some (xv_i (if (d.2 5).length < 3000 then 1 else 0)))) S') :
    Y_N_send mc ms [xv_r 1 0, xv_r 50 (tyN e.1), xv_i e.2.1, xv_i e.2.2.1, xv_i e.2.2.2.1, xv_i e.2.2.2.2.1, xv_i e.2.2.2.2.2] S P := by
  have hls : ls 5 = d.2 5 := hB.1 5 (by decide)
  have hL := h.2.2.2.2.2.2.2.2 5 (by omega)
  obtain ⟨fs, hfs⟩ := hL.obj
  rw [hls] at hmc hms hL
  refine x_go.run mn_N_send 40 ?_
  refine ⟨nl rfl, _, _, h.2.1, rfl, ?_⟩
  refine ⟨nl rfl, ⟨_, hfs⟩, rfl, nl rfl, 0, 0, Nat.zero_le _, Nat.zero_le _, c_size hL ?_⟩
  refine ⟨fun c => ?_, fun c => ?_⟩
  · have hlt : (d.2 5).length < 3000 := (z_lt (b := 3000) (by omega) (by decide)).mp c
    have hmc := hmc hlt
    have hms := hms hlt
    rw [if_pos hlt] at hP
    refine ⟨nl rfl, _, _, h.2.1, rfl, ?_⟩
    obtain ⟨n, hn, -, -⟩ := hF.fr
    refine ⟨by show 1 ≤ mc; omega, by show 6 ≤ ms; omega, 10, n, nl rfl, hn, ?_⟩
    refine ⟨rfl, nl rfl, 0, 0, Nat.zero_le _, Nat.zero_le _, c_ginit e (x_up_self _ _ _ _) ?_⟩
    rw [x_up_up]
    have r1 : RC q s cp ls (x_up S 10 n (.inl (7, gR e))) := h.sub (xsub.rf.new hn)
    have hL1 := r1.2.2.2.2.2.2.2.2 5 (by omega)
    rw [hls] at hL1
    obtain ⟨fs1, hfs1⟩ := hL1.obj
    refine ⟨nl rfl, ⟨_, hfs1⟩, rfl, nl rfl, full (d.2 5) (cp 5), full (d.2 5) (cp 5) * gc (cp 5), by show _ ≤ mc - 1 - 0; omega, by show _ ≤ ms - 6 - 0; omega, ?_⟩
    refine c_add (e := e) (p := n) hL1 (by decide) (x_up_self _ _ _ _) (by omega) hF.up ⟨by rw [x_up_k (by decide)]; exact h54.1, by rw [x_up_k (by decide)]; exact h54.2⟩ fun S1 a1 a2 a3 => ?_
    refine ⟨Or.inr rfl, hP _ _ S1 (r1.lst (by decide) a1 a2) (by have := hB.sent (e := e) hlt; rw [hls] at this; exact this) ⟨fun j hj => if_neg hj, fun j hj => if_neg hj, ?_, (fc.rf.up (Or.inl (by decide))).tr (a2.fc (by decide)), fun p c hc => ?_, ?_, a3⟩⟩
    · show (if 5 = 5 then (if (d.2 5).length = cp 5 then gc (cp 5) else cp 5) else cp 5) = _
      rw [if_pos rfl, hls]
      by_cases ef : (d.2 5).length = cp 5
      · rw [if_pos ef, if_pos ⟨hlt, ef⟩]
      · rw [if_neg ef, if_neg (fun z => ef z.2)]
    · rw [a2.k (by decide) (by decide)]
      exact (xsub.rf (S := S)).new hn 10 p c hc
    · rw [a2.k (by decide) (by decide), x_up_k (by decide)]
  · have hge : ¬ (d.2 5).length < 3000 := fun z => c ((z_lt (b := 3000) (by omega) (by decide)).mpr z)
    rw [if_neg hge] at hP
    refine ⟨Or.inl rfl, hP cp ls S h ?_ ⟨fun _ _ => rfl, fun _ _ => rfl, by rw [hls, if_neg (fun z => hge z.1)], fc.rf, fun _ _ z => z, rfl, hF⟩⟩
    unfold dsent
    rw [if_pos (by omega)]
    exact hB
end CW
