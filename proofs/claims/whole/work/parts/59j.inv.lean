/-! the calls keep it -/
theorem PM.set {k j : Nat} {d d1 : DS} {m n : Nat} {v : Int32} (h : PM k j d m d1) (hn : n = 12 ∨ (n = 11 ∧ ∃ a, a < 200 ∧ v = Int32.ofNat a) ∨ (n = 17 ∧ ∃ a, a ≤ 41 ∧ v = Int32.ofNat a)) : PM k j d m (dset d1 n m v) ∧ (dset d1 n m v).1 10 m = d1.1 10 m := by
  obtain ⟨⟨⟨h1, h2, h3, h4, h5, h6, h7⟩, hj⟩, i2, i3, i4, i5, i6⟩ := h
  have hn' : n = 11 ∨ n = 12 ∨ n = 17 := by
    rcases hn with h | ⟨h, -⟩ | ⟨h, -⟩ <;> omega
  refine ⟨⟨⟨⟨h1, h2, ?_, ?_, ?_, ?_, ?_⟩, hj⟩, fun m' a b => (i2 m' a b).tr (dset_same b (by omega)), i3, i4, i5.eq (dset_nt (by omega)), ?_⟩, by rw [dset_nt (by omega)]⟩
  · rw [dset_nt (by omega)]
    exact h3
  · rcases hn with rfl | ⟨rfl, -⟩ | ⟨rfl, a, q1, rfl⟩
    · rw [dset_nt (by decide)]
      exact h4
    · rw [dset_nt (by decide)]
      exact h4
    · exact ⟨a, q1, dset_at' _ _ _ _⟩
  · rw [dset_nt (by omega)]
    exact h5
  · rw [dset_nt (by omega)]
    exact h6
  · rcases hn with rfl | ⟨rfl, a, q1, rfl⟩ | ⟨rfl, -⟩
    · rw [dset_nt (by decide)]
      exact h7
    · exact ⟨a, q1, dset_at' _ _ _ _⟩
    · rw [dset_nt (by decide)]
      exact h7
  · rw [dset_nt (by omega)]
    exact i6
theorem Inv.mono {n n' : Nat} {d : DS} (h : Inv n d) (hn : n ≤ n') : Inv n' d := ⟨fun m hm => (h.1 m hm).mono hn, h.2.1, by have := h.2.2.1; omega, h.2.2.2⟩
theorem Inv.suc {n : Nat} {d : DS} (h : Inv n d) : Inv (n + 1) d := h.mono (by omega)
theorem Inv.card {n : Nat} {d : DS} (h : Inv n d) {m a : Nat} (hm : m < 4) (ha : a < 200) : Inv (n + 1) (dcard d m a).1 := by
  unfold dcard
  split
  · have p := ((((h.pm hm).set10 (s := 2) (by decide)).set (n := 11) (v := Int32.ofNat a) (Or.inr (Or.inl ⟨rfl, a, ha, rfl⟩))).1.set (n := 12) (v := 0) (Or.inl rfl)).1
    refine p.inv h ⟨by omega, by omega⟩ fun q => ?_
    exfalso
    change (dset (dset (dset d 10 m 2) 11 m (Int32.ofNat a)) 12 m 0).1 10 m = 4 at q
    rw [dset_nt (by decide), dset_nt (by decide), dset_at'] at q
    cases q
  · exact h.suc
theorem Inv.set1 {n : Nat} {d : DS} (h : Inv n d) {m s : Nat} (hm : m < 4) (hs : s < 4) : Inv (n + 1) (dset d 10 m (Int32.ofNat s)) := by
  refine ((h.pm hm).set10 (s := s) (by omega)).inv h ⟨by omega, by omega⟩ fun q => ?_
  rw [dset_at', show (4 : Int32) = Int32.ofNat 4 from rfl, z_eq (by omega) (by decide)] at q
  omega
theorem Inv.pin {n : Nat} {d : DS} (h : Inv n d) {m : Nat} {p : Int32} (hm : m < 4) : Inv (n + 1) (dpin d m p).1 := by
  unfold dpin
  split
  · next e =>
    split
    · exact h.set1 (s := 3) hm (by decide)
    · split
      · have p := ((h.pm hm).set (n := 12) (v := d.1 12 m + 1) (Or.inl rfl)).1.set10 (s := 1) (by decide)
        refine p.inv h ⟨by omega, by omega⟩ fun q => ?_
        rw [dset_at'] at q
        cases q
      · have p := (h.pm hm).set (n := 12) (v := d.1 12 m + 1) (Or.inl rfl)
        refine p.1.inv h ⟨by omega, by omega⟩ fun q => ?_
        rw [p.2, e] at q
        cases q
  · exact h.suc
theorem Inv.jam {n : Nat} {d : DS} (h : Inv n d) {m j : Nat} (hm : m < 4) (hj : j ≤ 41) : Inv (n + 1) (dset d 17 m (Int32.ofNat j)) := by
  have p := (h.pm hm).set (n := 17) (v := Int32.ofNat j) (Or.inr (Or.inr ⟨rfl, j, hj, rfl⟩))
  refine p.1.inv h ⟨by omega, by omega⟩ fun q => ?_
  rw [p.2] at q
  obtain ⟨f, l⟩ := (h.1 m hm).2.1 q
  refine ⟨?_, by show (d.2 m).length + 1 ≤ _; omega⟩
  unfold Fr
  rw [dset_nt (show 11 ≠ 17 by decide)]
  exact f
theorem Inv.load {n : Nat} {d : DS} (h : Inv n d) {m c N : Nat} (hm : m < 4) (hc : c < 4) (hN : N ≤ 100) : Inv (n + 1) (dload d m c (Int32.ofNat N)).1 := by
  unfold dload
  split
  · next q =>
    obtain ⟨⟨h1, h2, h3, h4, h5, h6, h7⟩, hs, hj⟩ := h.1 m hm
    obtain ⟨o, o1, o2⟩ := h3 c hc
    have p : PM (2 * n) n d m (dset d 13 (4 * m + c) (d.1 13 (4 * m + c) + Int32.ofNat N)) := by
      refine ⟨⟨⟨h1, h2, fun c' hc' => ?_, ?_, ?_, ?_, ?_⟩, hj⟩, fun m' a b => ⟨rfl, fun n b1 b2 b3 => by rw [dset_nt b3], fun c' hc' => ?_⟩, rfl, h.2.2.2.1, h.2.2.2.2.1.eq (dset_nt (by decide)), by rw [dset_nt (by decide)]⟩
      · by_cases e : c' = c
        · subst e
          rw [dset_at', o2, z_add]
          rw [o2, z_add, show (500 : Int32) = Int32.ofNat 500 from rfl, z_le (by omega) (by decide)] at q
          exact ⟨_, q, rfl⟩
        · rw [dset_nj (by omega)]
          exact h3 c' hc'
      · rw [dset_nt (by decide)]
        exact h4
      · rw [dset_nt (by decide)]
        exact h5
      · rw [dset_nt (by decide)]
        exact h6
      · rw [dset_nt (by decide)]
        exact h7
      · rw [dset_nj (by omega)]
    refine p.inv h ⟨by omega, by omega⟩ fun z => ?_
    rw [dset_nt (by decide)] at z
    obtain ⟨f, l⟩ := hs z
    refine ⟨?_, by show (d.2 m).length + 1 ≤ _; omega⟩
    unfold Fr
    rw [dset_nt (show 11 ≠ 13 by decide)]
    exact f
  · exact h.suc
theorem Inv.power {n : Nat} {d : DS} (h : Inv n d) {w b : Nat} {k : Int32} (hb : b ≤ 17) : Inv (n + 1) (dset (dset d 7 w k) 8 w (Int32.ofNat b)) := by
  refine Inv.suc ⟨fun m hm => (h.1 m hm).same ⟨rfl, fun n b1 b2 b3 => by rw [dset_nt (by omega), dset_nt (by omega)], fun c hc => by rw [dset_nt (by decide), dset_nt (by decide)]⟩, h.2.1, h.2.2.1, h.2.2.2.1, fun w' hw' => ?_, ?_⟩
  · by_cases e : w' = w
    · subst e
      exact ⟨b, hb, dset_at' _ _ _ _⟩
    · rw [dset_nj e, dset_nt (by decide)]
      exact h.2.2.2.2.1 w' hw'
  · rw [dset_nt (by decide), dset_nt (by decide)]
    exact h.2.2.2.2.2
theorem Inv.on4 {n : Nat} {d : DS} (h : Inv n d) : Inv (n + 1) (dset d 9 0 1) := by
  refine Inv.suc ⟨fun m hm => (h.1 m hm).same ⟨rfl, fun n b1 b2 b3 => by rw [dset_nt (by omega)], fun c hc => by rw [dset_nt (by decide)]⟩, h.2.1, h.2.2.1, h.2.2.2.1, h.2.2.2.2.1.eq (dset_nt (by decide)), ?_⟩
  exact Or.inr (dset_at' _ _ _ _)
theorem Inv.late {n : Nat} {d : DS} (h : Inv n d) {m : Nat} (hm : m < 4) (hn : n ≤ 600) (f : Fr d m) : PM (2 * n + 1) n d m (dlate d m).1 ∧ ((dlate d m).1.1 10 m = 0 ∨ (dlate d m).1.1 10 m = 1) := by
  obtain ⟨f1, f2, f3, f4, f5, -⟩ := f
  have hl := (h.1 m hm).1.2.1
  obtain ⟨v, v1, v2, v3⟩ := amt_ex (h.1 m hm).1.1 (by omega) f1
  have p := (h.pm hm).rev (v := v) hm (by omega) f1 f4 f5 (Or.inl f2) (by omega) v2
  unfold dlate
  rw [v3]
  rcases bcase (drev d m (dlast d m) (Int32.ofNat v)).2 with q | q
  · rw [dthen_t q]
    exact ⟨p.1, Or.inl (p.2.1 q)⟩
  · rw [dthen_f q]
    exact ⟨p.1.set10 (s := 1) (by decide), Or.inr (dset_at' _ _ _ _)⟩
theorem ne4 {x : Int32} (h : x = 0 ∨ x = 1) : x ≠ 4 := by
  rcases h with rfl | rfl <;> decide
theorem Inv.cancel {n : Nat} {d : DS} (h : Inv n d) {m : Nat} (hm : m < 4) (hn : n ≤ 600) : Inv (n + 1) (dcancel d m).1 := by
  unfold dcancel
  split
  · exact h.suc
  · split
    · next q =>
      have p := h.late hm hn ((h.1 m hm).2.1 q).1
      exact p.1.inv h ⟨by omega, by omega⟩ fun z => (ne4 p.2 z).elim
    · exact h.set1 (s := 1) hm (by decide)
theorem Inv.ask {n : Nat} {d : DS} (h : Inv n d) {m v : Nat} (hm : m < 4) (hn : n ≤ 600) (hv : 5 ≤ v) (hv' : v ≤ 1000) : Inv (n + 1) (dask d m v).1 := by
  unfold dask
  split
  · next hst =>
    split
    · obtain ⟨⟨h1, h2, h3, h4, h5, h6, a, ha, h7⟩, -, hj⟩ := h.1 m hm
      have hl := asks_le (d.2 m)
      have ok : okrec m (d.2 m) (1, Int32.ofNat m, dlast d m + 1, d.1 11 m, Int32.ofNat v, 0) := ⟨rfl, Or.inl ⟨rfl, z_suc _, ⟨v, hv, hv', rfl⟩, a, ha, h7⟩⟩
      have hr := (h.pm hm).rec1 hm ok
      rw [if_pos rfl] at hr
      have hs := STp.rec d hm (1, Int32.ofNat m, dlast d m + 1, d.1 11 m, Int32.ofNat v, 0)
      split
      · next q =>
        refine hr.inv h ⟨by omega, by omega⟩ fun z => ?_
        have := hs.1 q
        change (drec _ _ _).1 10 m = 0 at this
        rw [this] at z
        cases z
      · next q =>
        have q : dfailsb d m = false := by
          cases e : dfailsb d m
          · rfl
          · exact (q e).elim
        have e2 := drec_ok d m (1, Int32.ofNat m, dlast d m + 1, d.1 11 m, Int32.ofNat v, 0) q
        have e11 : (drec d m (1, Int32.ofNat m, dlast d m + 1, d.1 11 m, Int32.ofNat v, 0)).1 11 = d.1 11 := drec_1 (by decide)
        have hm1 : okM (200, Int32.ofNat m, dlast d m + 1, d.1 11 m, Int32.ofNat v, 0) := ⟨200, m, asks (d.2 m) + 1, a, v, 0, by rw [h7, show dlast d m + 1 = Int32.ofNat (asks (d.2 m) + 1) from z_suc _]; rfl, by omega, hm, by omega, ha, by omega, by decide, fun q => (by cases q), fun _ => hv'⟩
        have hp := (hr.set10 (s := 4) (by decide)).sent hm hm1
        refine hp.inv h ⟨by omega, by omega⟩ fun _ => ?_
        have e2' : (dsent (dset (drec d m (1, Int32.ofNat m, dlast d m + 1, d.1 11 m, Int32.ofNat v, 0)) 10 m (Int32.ofNat 4)) (200, Int32.ofNat m, dlast d m + 1, d.1 11 m, Int32.ofNat v, 0)).2 m = d.2 m ++ [(1, Int32.ofNat m, dlast d m + 1, d.1 11 m, Int32.ofNat v, 0)] := by
          rw [dsent_ne (by omega)]
          exact e2
        have e11' : (dsent (dset (drec d m (1, Int32.ofNat m, dlast d m + 1, d.1 11 m, Int32.ofNat v, 0)) 10 m (Int32.ofNat 4)) (200, Int32.ofNat m, dlast d m + 1, d.1 11 m, Int32.ofNat v, 0)).1 11 m = d.1 11 m := by
          rw [dsent_1, dset_nt (by decide), e11]
        have ea : asks (d.2 m ++ [(1, Int32.ofNat m, dlast d m + 1, d.1 11 m, Int32.ofNat v, 0)]) = asks (d.2 m) + 1 := by
          rw [asks_snoc, if_pos rfl]
        have nn : ∀ k : Int32, k ≠ 1 → fR (d.2 m ++ [(1, Int32.ofNat m, dlast d m + 1, d.1 11 m, Int32.ofNat v, 0)]) k (Int32.ofNat m) (Int32.ofNat (asks (d.2 m ++ [(1, Int32.ofNat m, dlast d m + 1, d.1 11 m, Int32.ofNat v, 0)]))) = none := by
          intro k hk
          rw [fR_snoc_x (fun z => hk z.1.symm), ea]
          exact Jok.beyond h1 (by omega) (by omega) (by omega) _ _
        have key : ∀ D : DS, D.2 m = d.2 m ++ [(1, Int32.ofNat m, dlast d m + 1, d.1 11 m, Int32.ofNat v, 0)] → D.1 11 m = d.1 11 m → Fr D m ∧ (D.2 m).length + 1 ≤ 2 * (n + 1) := by
          intro D z1 z2
          have z3 : dlast D m = Int32.ofNat (asks (d.2 m ++ [(1, Int32.ofNat m, dlast d m + 1, d.1 11 m, Int32.ofNat v, 0)])) := by
            show Int32.ofNat (asks (D.2 m)) = _
            rw [z1]
          unfold Fr
          rw [z3, z1, z2]
          refine ⟨⟨by omega, nn 2 (by decide), nn 3 (by decide), nn 4 (by decide), nn 5 (by decide), _, amt_snoc1 h1 ok (by omega) rfl, rfl⟩, ?_⟩
          rw [List.length_append]
          show (d.2 m).length + 1 + 1 ≤ _
          omega
        exact key _ e2' e11'
    · exact h.suc
  · exact h.suc
