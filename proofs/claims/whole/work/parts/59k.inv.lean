theorem Inv.pm0 {n : Nat} {d : DS} {m : Nat} (h : Inv n d) (hm : m < 4) : PM (d.2 m).length n d m d := ⟨⟨⟨(h.1 m hm).1.1, Nat.le_refl _, (h.1 m hm).1.2.2⟩, (h.1 m hm).2.2⟩, fun _ _ _ => sameM.rf, rfl, h.2.2.2.1, h.2.2.2.2.1, rfl⟩
theorem Inv.sent {n : Nat} {d : DS} {e : R6} (h : Inv n d) (he : okM e) : Inv n (dsent d e) :=
  ⟨fun m hm => (h.1 m hm).same (dsent_same _ _ (by omega)), by rw [dsent_ne (by decide)]; exact h.2.1, by rw [dsent_ne (by decide)]; exact h.2.2.1, okM.sent h.2.2.2.1 he, h.2.2.2.2.1.eq (by rw [dsent_1]), by rw [dsent_1]; exact h.2.2.2.2.2⟩
theorem Inv.agS {n m : Nat} (hm : m < 4) : ∀ (vs : List R6) (d : DS), Inv n d → (∀ e ∈ vs, okM (420, Int32.ofNat m, e.2.2.1, 0, e.2.2.2.2.1, 0)) → Inv n (dagS m d vs)
  | [], _, h, _ => h
  | e :: vs, d, h, hv => Inv.agS hm vs _ (h.sent (hv e List.mem_cons_self)) (fun x hx => hv x (List.mem_cons_of_mem _ hx))
theorem Inv.again {n : Nat} {d : DS} (h : Inv n d) {m : Nat} (hm : m < 4) (hn : n ≤ 600) : Inv (n + 1) (dagain d m).1 := by
  unfold dagain
  split
  · exact h.suc
  · refine (Inv.agS hm _ d h fun e he => ?_).suc
    obtain ⟨h1, h2⟩ := voids_mem he
    obtain ⟨j1, j2, -⟩ := (h.1 m hm).1
    obtain ⟨v, v1, v2, v3⟩ := (Jok.kind j1 e h1).1 h2
    obtain ⟨-, t, t1, t2, t3⟩ := Jok.mem j1 e h1
    have := asks_le (d.2 m)
    rw [v3, t3]
    exact okM.rev hm (by omega) v1 v2
theorem Inv.settle {n : Nat} {d : DS} (h : Inv n d) {m : Nat} (hm : m < 4) (hn : n ≤ 600) : Inv (n + 1) (dsettle d m).1 := by
  unfold dsettle
  split
  · exact h.suc
  · obtain ⟨j1, j2, -⟩ := (h.1 m hm).1
    obtain ⟨s, s1, s2⟩ := Jok.sum j1
    have := asks_le (d.2 m)
    refine (h.sent ⟨500, m, asks (d.2 m), 0, s, 0, by rw [s2]; rfl, by omega, hm, by omega, by decide, by omega, by decide, fun q => (by cases q), fun q => by omega⟩).suc
theorem Fr.rec2 {d : DS} {m : Nat} {e : R6} (f : Fr d m) (hq : (drecB d m e).2 = false) (he : e.1 = 2) (hm : e.2.1 = Int32.ofNat m) (ht : e.2.2.1 = dlast d m) :
    asks ((drecB d m e).1.2 m) = asks (d.2 m) ∧ fR ((drecB d m e).1.2 m) 2 (Int32.ofNat m) (dlast d m) ≠ none ∧ fR ((drecB d m e).1.2 m) 3 (Int32.ofNat m) (dlast d m) = none ∧ fR ((drecB d m e).1.2 m) 4 (Int32.ofNat m) (dlast d m) = none ∧ fR ((drecB d m e).1.2 m) 5 (Int32.ofNat m) (dlast d m) = none := by
  obtain ⟨f1, f2, f3, f4, f5, -⟩ := f
  rw [drecB_2 hq]
  refine ⟨by rw [asks_snoc, he, if_neg (by decide)]; rfl, fun z => (fR_snoc_n.mp z).2 ⟨he, hm, ht⟩, ?_, ?_, ?_⟩
  · rw [fR_snoc_x (fun z => by have := z.1; rw [he] at this; cases this)]
    exact f3
  · rw [fR_snoc_x (fun z => by have := z.1; rw [he] at this; cases this)]
    exact f4
  · rw [fR_snoc_x (fun z => by have := z.1; rw [he] at this; cases this)]
    exact f5
theorem Inv.pay {n : Nat} {d : DS} (h : Inv n d) {m v : Nat} {x : Q4} (hm : m < 4) (hn : n ≤ 600) (f : Fr d m) (hx : Feas (nts (d.1 13) m) v x) (hv : v ≤ 1000) : PM ((d.2 m).length + 3) n d m (dpay d m (dlast d m) x).1 ∧ ((dpay d m (dlast d m) x).1.1 10 m = 0 ∨ (dpay d m (dlast d m) x).1.1 10 m = 1) := by
  obtain ⟨f1, f2, f3, f4, f5, -⟩ := id f
  unfold dpay
  have hlen := (h.1 m hm).1.2.1
  have hr := (h.pm0 hm).rec (e := (2, Int32.ofNat m, dlast d m, 0, pk x, 0)) hm ⟨rfl, Or.inr (Or.inl ⟨rfl, f1, rfl, f2, f3, f4, f5⟩)⟩ (show ¬ (2 : Int32) = 1 by decide)
  have hs := STp.rec d hm (2, Int32.ofNat m, dlast d m, 0, pk x, 0)
  rcases bcase (drecB d m (2, Int32.ofNat m, dlast d m, 0, pk x, 0)).2 with q | q
  · rw [dthen_t q]
    exact ⟨hr.mono (by omega), Or.inl (hs.1 q)⟩
  · rw [dthen_f q]
    obtain ⟨g1, g2, g3, g4, g5⟩ := f.rec2 q rfl rfl rfl
    have e13 : (drecB d m (2, Int32.ofNat m, dlast d m, 0, pk x, 0)).1.1 13 = d.1 13 := drec_1 (by decide)
    have hr' : PM ((d.2 m).length + 1) n d m (drecB d m (2, Int32.ofNat m, dlast d m, 0, pk x, 0)).1 := hr
    generalize (drecB d m (2, Int32.ofNat m, dlast d m, 0, pk x, 0)).1 = D at g1 g2 g3 g4 g5 hr' e13 ⊢
    have hp := (hr'.disp (t := dlast d m) (acc := oacc (fR (d.2 m) 1 (Int32.ofNat m) (dlast d m))) hm (by rw [e13]; exact hx) hv).1
    have e2 : (ddisp D m (dlast d m) x (oacc (fR (d.2 m) 1 (Int32.ofNat m) (dlast d m)))).2 m = D.2 m := by rw [ddisp_2]
    generalize ddisp D m (dlast d m) x (oacc (fR (d.2 m) 1 (Int32.ofNat m) (dlast d m))) = D2 at hp e2 ⊢
    obtain ⟨w, w1, w2⟩ := hp.1.1.2.2.2.2.2.1
    have el : dlast D2 m = dlast d m := by
      show Int32.ofNat (asks (D2.2 m)) = _
      rw [e2, g1]
    rw [w2, ← el]
    rw [← el] at g2 g3 g4 g5
    rw [← e2] at g1 g2 g3 g4 g5
    have hq := hp.paid (v := w) hm (by omega) (by omega) g2 g3 g4 g5 w1
    rcases bcase (dpaid D2 m (dlast D2 m) (Int32.ofNat w)).2 with q | q
    · rw [dthen_t q]
      exact ⟨hq.1.mono (by omega), Or.inl (hq.2.1 q)⟩
    · rw [dthen_f q]
      exact ⟨(hq.1.set10 (s := 1) (by decide)).mono (by omega), Or.inr (dset_at' _ _ _ _)⟩
theorem Inv.answ {n : Nat} {d : DS} (h : Inv n d) {m : Nat} {t ans : Int32} (hm : m < 4) (hn : n ≤ 600) : Inv (n + 1) (dansw d m t ans).1 := by
  unfold dansw
  split
  · next q =>
    obtain ⟨q1, rfl⟩ := q
    obtain ⟨f, hl⟩ := (h.1 m hm).2.1 q1
    split
    · split
      · have p := h.late hm hn f
        exact p.1.inv h ⟨by omega, by omega⟩ fun z => (ne4 p.2 z).elim
      · next x hx =>
        obtain ⟨v, v1, v2, v3⟩ := amt_ex (h.1 m hm).1.1 (by omega) f.1
        rw [v3, z_nat (by omega)] at hx
        have p := h.pay hm hn f (dmix_is hx).1 v2
        exact p.1.inv h ⟨by omega, by omega⟩ fun z => (ne4 p.2 z).elim
    · obtain ⟨f1, f2, f3, f4, f5, -⟩ := id f
      have hr := (h.pm hm).rec (e := (5, Int32.ofNat m, dlast d m, 0, 0, 0)) hm ⟨rfl, Or.inr (Or.inr (Or.inr (Or.inr ⟨rfl, ⟨_, f1, Nat.le_refl _, rfl⟩, f5, Or.inr ⟨f2, f3, f4⟩⟩)))⟩ (show ¬ (5 : Int32) = 1 by decide)
      have hs := STp.rec d hm (5, Int32.ofNat m, dlast d m, 0, 0, 0)
      rcases bcase (drecB d m (5, Int32.ofNat m, dlast d m, 0, 0, 0)).2 with q | q
      · rw [dthen_t q]
        exact PM.inv (k := 2 * n + 1) h hr ⟨by omega, by omega⟩ fun z => (ne4 (Or.inl (hs.1 q)) z).elim
      · rw [dthen_f q]
        exact (hr.set10 (s := 1) (by decide)).inv h ⟨by omega, by omega⟩ fun z => (ne4 (Or.inr (dset_at' _ _ _ _)) z).elim
  · exact h.suc
