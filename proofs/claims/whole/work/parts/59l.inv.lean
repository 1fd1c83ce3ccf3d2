theorem Inv.mach {n : Nat} {d : DS} (h : Inv n d) {m : Nat} {e : R6} (hm : m < 4) (hn : n ≤ 600) : Inv (n + 1) (dmach d m e).1 := by
  unfold dmach
  split
  · exact h.answ hm hn
  · split
    · next _ q =>
      obtain ⟨-, q4, q5⟩ := q
      obtain ⟨x, x1, x2, x3, x4⟩ := fR_ex q4
      obtain ⟨-, t, t1, t2, t3⟩ := Jok.mem (h.1 m hm).1.1 x x1
      have hr := (h.pm hm).rec (e := (5, Int32.ofNat m, e.2.2.1, 0, 0, 0)) hm ⟨rfl, Or.inr (Or.inr (Or.inr (Or.inr ⟨rfl, ⟨t, t1, t2, by rw [← x4]; exact t3⟩, q5, Or.inl q4⟩)))⟩ (show ¬ (5 : Int32) = 1 by decide)
      have hs := STp.rec d hm (5, Int32.ofNat m, e.2.2.1, 0, 0, 0)
      refine PM.inv (k := 2 * n + 1) h hr ⟨by omega, by omega⟩ fun z => ?_
      rcases bcase (drecB d m (5, Int32.ofNat m, e.2.2.1, 0, 0, 0)).2 with q | q
      · exact (ne4 (Or.inl (hs.1 q)) z).elim
      · rw [hs.2 q] at z
        obtain ⟨⟨f1, f2, f3, f4, f5, y, f6, f7⟩, hl⟩ := (h.1 m hm).2.1 z
        have e2 : (drecB d m (5, Int32.ofNat m, e.2.2.1, 0, 0, 0)).1.2 m = d.2 m ++ [(5, Int32.ofNat m, e.2.2.1, 0, 0, 0)] := drecB_2 q
        have e11 : (drecB d m (5, Int32.ofNat m, e.2.2.1, 0, 0, 0)).1.1 11 = d.1 11 := drec_1 (by decide)
        have hne : ¬ e.2.2.1 = dlast d m := fun w => q4 (by rw [w]; exact f4)
        have key : ∀ D : DS, D.2 m = d.2 m ++ [(5, Int32.ofNat m, e.2.2.1, 0, 0, 0)] → D.1 11 = d.1 11 → Fr D m ∧ (D.2 m).length + 1 ≤ 2 * (n + 1) := by
          intro D z1 z2
          have ea : asks (D.2 m) = asks (d.2 m) := by
            rw [z1, asks_snoc, if_neg (show ¬ (5 : Int32) = 1 by decide)]
            rfl
          have z3 : dlast D m = dlast d m := by
            show Int32.ofNat (asks (D.2 m)) = _
            rw [ea]
          have nn : ∀ k, fR (D.2 m) k (Int32.ofNat m) (dlast D m) = fR (d.2 m) k (Int32.ofNat m) (dlast d m) := by
            intro k
            rw [z3, z1]
            exact fR_snoc_x fun w => hne w.2.2
          unfold Fr
          rw [nn, nn, nn, nn, nn, ea, z2]
          refine ⟨⟨f1, f2, f3, f4, f5, y, f6, f7⟩, ?_⟩
          rw [z1, List.length_append]
          show (d.2 m).length + 1 + 1 ≤ _
          omega
        exact key _ e2 e11
    · exact h.suc
/-- the BANK writes -/
theorem Inv.rec4 {n : Nat} {d : DS} {e : R6} (h : Inv n d) (he : okB (d.2 4) e) : Inv (n + 1) (drec d 4 e) := by
  refine ⟨fun m hm => ((h.1 m hm).same (drec_same (by omega))).mono (by omega), ?_, ?_, by rw [drec_ne (by decide)]; exact h.2.2.2.1, h.2.2.2.2.1.rec 4 e, ?_⟩
  · rcases drec_self d 4 e with q | q
    · rw [q]
      exact h.2.1
    · rw [q]
      exact Pok.snoc h.2.1 he
  · have := h.2.2.1
    rcases drec_self d 4 e with q | q
    · rw [q]
      omega
    · rw [q, List.length_append]
      show (d.2 4).length + 1 ≤ _
      omega
  · rw [drec_9]
    split
    · exact Or.inl rfl
    · exact h.2.2.2.2.2
theorem Bok.mem {l : List R6} (h : Bok l) {e : R6} (he : e ∈ l) : (∃ a, a < 200 ∧ e.2.2.2.1 = Int32.ofNat a) ∧ ∃ r, r < 10 ∧ e.2.2.2.2.2 = Int32.ofNat r := by
  obtain ⟨p, q, -, hk⟩ := Pok.at h he
  rcases hk.1 with ⟨-, -, h1, h2⟩ | ⟨-, -, h1, h2, -⟩
  · exact ⟨h1, h2⟩
  · exact ⟨h1, 0, by decide, h2⟩
theorem dansB_ok {n : Nat} {d : DS} (h : Inv n d) (e : R6) : ∃ r, r < 10 ∧ dansB d e = Int32.ofNat r := by
  unfold dansB
  split
  · split
    · split
      · exact ⟨1, by decide, rfl⟩
      · exact ⟨0, by decide, rfl⟩
    · exact ⟨3, by decide, rfl⟩
  · next q =>
    cases z : fR (d.2 4) 6 e.2.1 e.2.2.1 with
    | none => exact (q z).elim
    | some x => exact (Bok.mem h.2.1 (fR_some z).1).2
theorem dgb_ok {n : Nat} {d : DS} (h : Inv n d) {e : R6} (he : okM e) (ht : e.1 = 420) (h7 : fR (d.2 4) 7 e.2.1 e.2.2.1 = none) : okB (d.2 4) (dgb d e) := by
  by_cases q : fR (d.2 4) 6 e.2.1 e.2.2.1 ≠ none ∧ oans (fR (d.2 4) 6 e.2.1 e.2.2.1) = 0
  · have hg : dgb d e = (7, e.2.1, e.2.2.1, oacc32 (fR (d.2 4) 6 e.2.1 e.2.2.1), e.2.2.2.2.1, 0) := by
      unfold dgb
      rw [if_pos q, if_pos q]
    rw [hg]
    obtain ⟨ty, M, t, a, v, r, e1, e2, e3, e4, e5, e6, e7, e8, e9⟩ := he
    cases z : fR (d.2 4) 6 e.2.1 e.2.2.1 with
    | none => exact (q.1 z).elim
    | some x =>
      refine ⟨Or.inr ⟨rfl, h7, (Bok.mem h.2.1 (fR_some z).1).1, rfl, Or.inr ⟨?_, x, z, rfl⟩⟩, ?_⟩
      · have ht : ty = 420 := by
          rw [e1, show (420 : Int32) = Int32.ofNat 420 from rfl] at ht
          exact (z_eq (by omega) (by decide)).mp ht
        show (0 : Int32) < e.2.2.2.2.1
        rw [e1]
        show (0 : Int32) < Int32.ofNat v
        rw [show (0 : Int32) = Int32.ofNat 0 from rfl, z_lt (by decide) (by omega)]
        exact e8 ht
      · have ht : ty = 420 := by
          rw [e1, show (420 : Int32) = Int32.ofNat 420 from rfl] at ht
          exact (z_eq (by omega) (by decide)).mp ht
        refine ⟨v, e9 (Or.inr ht), ?_⟩
        show e.2.2.2.2.1 = _
        rw [e1]
  · have hg : dgb d e = (7, e.2.1, e.2.2.1, 0, 0, 0) := by
      unfold dgb
      rw [if_neg q, if_neg q]
    rw [hg]
    exact ⟨Or.inr ⟨rfl, h7, ⟨0, by decide, rfl⟩, rfl, Or.inl rfl⟩, 0, by decide, rfl⟩
theorem Inv.bank {n : Nat} {d : DS} (h : Inv n d) {e : R6} (he : okM e) : Inv (n + 1) (dbank d e).1 := by
  obtain ⟨ty, M, t, a, v, r, e1, e2, e3, e4, e5, e6, e7, e8, e9⟩ := id he
  obtain ⟨b, b1, b2⟩ := dansB_ok h e
  have m1 : okM (210, e.2.1, e.2.2.1, 0, 0, dansB d e) := ⟨210, M, t, 0, 0, b, by rw [b2, e1]; rfl, by omega, e3, e4, by decide, by decide, b1, fun q => (by cases q), fun q => by omega⟩
  have m2 : okM (430, e.2.1, e.2.2.1, 0, 0, 0) := ⟨430, M, t, 0, 0, 0, by rw [e1]; rfl, by omega, e3, e4, by decide, by decide, by decide, fun q => (by cases q), fun q => by omega⟩
  have m3 : ∀ c : Int32, c = 0 ∨ c = 4 → okM (510, e.2.1, e.2.2.1, 0, 0, c) := by
    rintro c (rfl | rfl)
    · exact ⟨510, M, t, 0, 0, 0, by rw [e1]; rfl, by omega, e3, e4, by decide, by decide, by decide, fun q => (by cases q), fun q => by omega⟩
    · exact ⟨510, M, t, 0, 0, 4, by rw [e1]; rfl, by omega, e3, e4, by decide, by decide, by decide, fun q => (by cases q), fun q => by omega⟩
  unfold dbank
  split
  · next h2 =>
    split
    · next h6 =>
      have ht2 : ty = 200 := by
        rw [e1, show (200 : Int32) = Int32.ofNat 200 from rfl] at h2
        exact (z_eq (by omega) (by decide)).mp h2
      have hr : Inv (n + 1) (drecB d 4 (6, e.2.1, e.2.2.1, e.2.2.2.1, e.2.2.2.2.1, dansB d e)).1 := h.rec4 ⟨Or.inl ⟨rfl, h6, ⟨a, e5, by rw [e1]⟩, b, b1, b2⟩, v, e9 (Or.inl ht2), by rw [e1]⟩
      rcases bcase (drecB d 4 (6, e.2.1, e.2.2.1, e.2.2.2.1, e.2.2.2.2.1, dansB d e)).2 with q | q
      · rw [dthen_t q]
        exact hr
      · rw [dthen_f q]
        exact hr.sent m1
    · exact (h.sent m1).suc
  · split
    · next h4 =>
      split
      · next h7 =>
        have hr : Inv (n + 1) (drecB d 4 (dgb d e)).1 := h.rec4 (dgb_ok h he h4 h7)
        rcases bcase (drecB d 4 (dgb d e)).2 with q | q
        · rw [dthen_t q]
          exact hr
        · rw [dthen_f q]
          exact hr.sent m2
      · exact (h.sent m2).suc
    · refine (h.sent (m3 _ ?_)).suc
      split
      · exact Or.inl rfl
      · exact Or.inr rfl
theorem Inv.del {n : Nat} {d : DS} (h : Inv n d) {m : Nat} {e : R6} (hm : m < 4) (he : okM e) (hn : n ≤ 600) : Inv (n + 1) (ddel d m e).1 := by
  unfold ddel
  split
  · split
    · exact h.suc
    · exact h.bank he
  · split
    · exact h.suc
    · exact h.mach hm hn
theorem Inv.wakes {n : Nat} {d : DS} (h : Inv n d) {m : Nat} (hm : m < 4) (hn : n ≤ 600) : Inv (n + 1) (dwakes d m).1 := by
  obtain ⟨j1, j2, j3, j4, j5, ⟨lv, lv1, lv2⟩, j7⟩ := (h.1 m hm).1
  have p1 := (h.pm hm).set10 (s := 1) (by decide)
  have e10 : (dset d 10 m (Int32.ofNat 1)).1 10 m = 1 := dset_at' _ _ _ _
  have hl : ∀ {r : DS × Bool}, STp r (dset d 10 m (Int32.ofNat 1)) m → r.1.1 10 m ≠ 4 := by
    intro r hr
    rcases bcase r.2 with q | q
    · exact ne4 (Or.inl (hr.1 q))
    · exact ne4 (Or.inr ((hr.2 q).trans e10))
  unfold dwakes
  split
  · exact h.set1 (s := 1) hm (by decide)
  · next q0 =>
    have ha : 1 ≤ asks (d.2 m) := by
      by_cases z : asks (d.2 m) = 0
      · exact (q0 (by show Int32.ofNat (asks (d.2 m)) = 0; rw [z]; rfl)).elim
      · omega
    split
    · next q =>
      obtain ⟨q2, q3, q4, q5⟩ := q
      obtain ⟨v, v1, v2, v3⟩ := amt_ex j1 (by omega) ha
      rw [show dlast d m = dlast (dset d 10 m (Int32.ofNat 1)) m from rfl]
      rw [show amtOf (d.2 m) (Int32.ofNat m) (dlast (dset d 10 m (Int32.ofNat 1)) m) = Int32.ofNat v from v3]
      have p := p1.rev (v := v) hm (by omega) ha q4 q5 (Or.inl q2) (by omega) v2
      exact p.1.inv h ⟨by omega, by omega⟩ fun z => (hl p.2 z).elim
    · split
      · next q =>
        obtain ⟨q2, q3⟩ := q
        have q45 : fR (d.2 m) 4 (Int32.ofNat m) (dlast d m) = none ∧ fR (d.2 m) 5 (Int32.ofNat m) (dlast d m) = none := by
          have := Jok.two j1 (dlast d m)
          refine ⟨?_, ?_⟩
          · cases z : fR (d.2 m) 4 (Int32.ofNat m) (dlast d m) with
            | none => rfl
            | some x =>
              rcases this (Or.inl (by rw [z]; simp)) with w | w
              · exact (q2 w).elim
              · exact (w q3).elim
          · cases z : fR (d.2 m) 5 (Int32.ofNat m) (dlast d m) with
            | none => rfl
            | some x =>
              rcases this (Or.inr (by rw [z]; simp)) with w | w
              · exact (q2 w).elim
              · exact (w q3).elim
        have hv : ∃ w, w ≤ 1000 ∧ (if d.1 14 m = dlast d m then d.1 15 m else 0) = Int32.ofNat w := by
          split
          · exact ⟨lv, lv1, lv2⟩
          · exact ⟨0, by decide, rfl⟩
        obtain ⟨w, w1, w2⟩ := hv
        rw [w2]
        have p := p1.paid (v := w) hm (by omega) ha q2 q3 q45.1 q45.2 w1
        exact p.1.inv h ⟨by omega, by omega⟩ fun z => (hl p.2 z).elim
      · split
        · next q =>
          obtain ⟨q3, q4⟩ := q
          have q5 : fR (d.2 m) 5 (Int32.ofNat m) (dlast d m) = none := by
            cases z : fR (d.2 m) 5 (Int32.ofNat m) (dlast d m) with
            | none => rfl
            | some x => exact ((Jok.three j1 (dlast d m) q3).2 (by rw [z]; simp) q4).elim
          have hv : ∃ w, w ≤ 1000 ∧ oval (fR (d.2 m) 3 (Int32.ofNat m) (dlast d m)) = Int32.ofNat w := by
            cases z : fR (d.2 m) 3 (Int32.ofNat m) (dlast d m) with
            | none => exact (q3 z).elim
            | some x =>
              obtain ⟨z1, z2, -⟩ := fR_some z
              exact (Jok.kind j1 x z1).2 z2
          obtain ⟨w, w1, w2⟩ := hv
          rw [w2]
          have p := p1.rest (v := w) hm (by omega) ha q4 q5 (Or.inr q3) w1
          exact p.1.inv h ⟨by omega, by omega⟩ fun z => (hl p.2 z).elim
        · exact h.set1 (s := 1) hm (by decide)
theorem Inv.on {n : Nat} {d : DS} (h : Inv n d) {w : Nat} (hw : w < 5) (hn : n ≤ 600) : Inv (n + 1) (don d w).1 := by
  unfold don
  split
  · exact h.on4
  · exact h.wakes (by omega) hn
theorem Inv.init : Inv 0 d0 := by
  refine ⟨fun m hm => ⟨⟨Pok.nil, Nat.le_refl _, fun c hc => ⟨30, by decide, ?_⟩, ⟨41, Nat.le_refl _, ?_⟩, ⟨1, by decide, ?_⟩, ⟨0, by decide, rfl⟩, ⟨0, by decide, rfl⟩⟩, fun q => ?_, Nat.le_refl _⟩, Pok.nil, Nat.le_refl _, fun e he => (by cases he), fun w hw => ⟨17, Nat.le_refl _, ?_⟩, Or.inr ?_⟩
  · exact if_pos (by omega)
  · exact if_pos hm
  · exact if_pos hm
  · exfalso
    rw [show d0.1 10 m = 1 from if_pos hm] at q
    cases q
  · exact if_pos hw
  · rfl
