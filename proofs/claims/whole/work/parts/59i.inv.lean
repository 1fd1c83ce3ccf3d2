/-! the machines' deeds keep it -/
def STp (r : DS × Bool) (d1 : DS) (m : Nat) : Prop := (r.2 = true → r.1.1 10 m = 0) ∧ (r.2 = false → r.1.1 10 m = d1.1 10 m)
theorem STp.rec (d : DS) {m : Nat} (hm : m < 4) (e : R6) : STp (drecB d m e) d m := by
  refine ⟨fun q => ?_, fun q => ?_⟩
  · show (drec d m e).1 10 m = 0
    rw [drec_10, if_pos ⟨q, by omega, rfl⟩]
  · show (drec d m e).1 10 m = _
    rw [drec_10, if_neg (fun z => by rw [show dfailsb d m = false from q] at z; cases z.1)]
theorem drecB_2 {d : DS} {m : Nat} {e : R6} (h : (drecB d m e).2 = false) : (drecB d m e).1.2 m = d.2 m ++ [e] := drec_ok d m e h
theorem bcase (b : Bool) : b = true ∨ b = false := by cases b <;> simp
theorem okM.rev {m t v : Nat} (hm : m < 4) (ht : t ≤ 2000) (h1 : 1 ≤ v) (h2 : v ≤ 1000) : okM (420, Int32.ofNat m, Int32.ofNat t, 0, Int32.ofNat v, 0) := ⟨420, m, t, 0, v, 0, rfl, by omega, hm, ht, by decide, by omega, by decide, fun _ => h1, fun _ => h2⟩
theorem PM.rev {k j : Nat} {d d1 : DS} {m v : Nat} (h : PM k j d m d1) (hm : m < 4) (hk : k ≤ 1900) (ha : 1 ≤ asks (d1.2 m)) (h4 : fR (d1.2 m) 4 (Int32.ofNat m) (dlast d1 m) = none) (h5 : fR (d1.2 m) 5 (Int32.ofNat m) (dlast d1 m) = none) (h23 : fR (d1.2 m) 2 (Int32.ofNat m) (dlast d1 m) = none ∨ fR (d1.2 m) 3 (Int32.ofNat m) (dlast d1 m) ≠ none) (hv : 1 ≤ v) (hv' : v ≤ 1000) :
    PM (k + 1) j d m (drev d1 m (dlast d1 m) (Int32.ofNat v)).1 ∧ STp (drev d1 m (dlast d1 m) (Int32.ofNat v)) d1 m := by
  have hr := h.rec (e := (4, Int32.ofNat m, dlast d1 m, 0, Int32.ofNat v, 0)) hm ⟨rfl, Or.inr (Or.inr (Or.inr (Or.inl ⟨rfl, ha, rfl, h4, h5, h23, v, hv, hv', rfl⟩)))⟩ (show ¬ (4 : Int32) = 1 by decide)
  have hs := STp.rec d1 hm (4, Int32.ofNat m, dlast d1 m, 0, Int32.ofNat v, 0)
  have hl := asks_le (d1.2 m)
  have hl' := h.1.1.2.1
  unfold drev
  rcases bcase (drecB d1 m (4, Int32.ofNat m, dlast d1 m, 0, Int32.ofNat v, 0)).2 with q | q
  · rw [dthen_t q]
    exact ⟨hr, hs⟩
  · rw [dthen_f q]
    refine ⟨hr.sent hm (okM.rev hm (by omega) hv hv'), fun q => (by cases q), fun _ => ?_⟩
    show (dsent _ _).1 10 m = _
    rw [dsent_1]
    exact hs.2 q
theorem amt_ex {m : Nat} {l : List R6} (h : Jok m l) (hl : l.length ≤ 2000) (ha : 1 ≤ asks l) : ∃ v, 5 ≤ v ∧ v ≤ 1000 ∧ amtOf l (Int32.ofNat m) (Int32.ofNat (asks l)) = Int32.ofNat v := by
  obtain ⟨e, h1, ⟨v, h2, h3, h4⟩, -⟩ := Jok.ask h (by omega) (asks l) ha (Nat.le_refl _)
  refine ⟨v, h2, h3, ?_⟩
  unfold amtOf
  rw [h1]
  exact h4
theorem PM.rest {k j : Nat} {d d1 : DS} {m v : Nat} (h : PM k j d m d1) (hm : m < 4) (hk : k ≤ 1900) (ha : 1 ≤ asks (d1.2 m)) (h4 : fR (d1.2 m) 4 (Int32.ofNat m) (dlast d1 m) = none) (h5 : fR (d1.2 m) 5 (Int32.ofNat m) (dlast d1 m) = none) (h23 : fR (d1.2 m) 2 (Int32.ofNat m) (dlast d1 m) = none ∨ fR (d1.2 m) 3 (Int32.ofNat m) (dlast d1 m) ≠ none) (hv' : v ≤ 1000) :
    PM (k + 1) j d m (drest d1 m (dlast d1 m) (Int32.ofNat v)).1 ∧ STp (drest d1 m (dlast d1 m) (Int32.ofNat v)) d1 m := by
  obtain ⟨a, a1, a2, a3⟩ := amt_ex h.1.1.1 (by have := h.1.1.2.1; omega) ha
  unfold drest
  rw [a3]
  split
  · next q =>
    have : v < a := by
      have := Int32.lt_iff_toInt_lt.mp q
      by_cases z : v < a
      · exact z
      · exfalso
        have e : Int32.ofNat a - Int32.ofNat v = - Int32.ofNat (v - a) := by
          rw [← z_sub (show a ≤ v by omega)]
          grind
        rw [e] at q
        have hb : v - a < 1001 := by omega
        generalize v - a = b at q hb
        have key : ∀ b : Fin 1001, ¬ ((0 : Int32) < - Int32.ofNat b.1) := by decide +kernel
        exact key ⟨b, hb⟩ q
    rw [z_sub (by omega)]
    exact h.rev hm hk ha h4 h5 h23 (by omega) (by omega)
  · exact ⟨h.mono (by omega), fun q => (by cases q), fun _ => rfl⟩
theorem PM.paid {k j : Nat} {d d1 : DS} {m v : Nat} (h : PM k j d m d1) (hm : m < 4) (hk : k ≤ 1800) (ha : 1 ≤ asks (d1.2 m)) (h2 : fR (d1.2 m) 2 (Int32.ofNat m) (dlast d1 m) ≠ none) (h3 : fR (d1.2 m) 3 (Int32.ofNat m) (dlast d1 m) = none) (h4 : fR (d1.2 m) 4 (Int32.ofNat m) (dlast d1 m) = none) (h5 : fR (d1.2 m) 5 (Int32.ofNat m) (dlast d1 m) = none) (hv' : v ≤ 1000) :
    PM (k + 2) j d m (dpaid d1 m (dlast d1 m) (Int32.ofNat v)).1 ∧ STp (dpaid d1 m (dlast d1 m) (Int32.ofNat v)) d1 m := by
  have hr := h.rec (e := (3, Int32.ofNat m, dlast d1 m, 0, Int32.ofNat v, 0)) hm ⟨rfl, Or.inr (Or.inr (Or.inl ⟨rfl, ha, rfl, h2, h3, h4, h5, v, hv', rfl⟩))⟩ (show ¬ (3 : Int32) = 1 by decide)
  have hs := STp.rec d1 hm (3, Int32.ofNat m, dlast d1 m, 0, Int32.ofNat v, 0)
  unfold dpaid
  rcases bcase (drecB d1 m (3, Int32.ofNat m, dlast d1 m, 0, Int32.ofNat v, 0)).2 with q | q
  · rw [dthen_t q]
    exact ⟨hr.mono (by omega), hs⟩
  · rw [dthen_f q]
    have e2 : (drecB d1 m (3, Int32.ofNat m, dlast d1 m, 0, Int32.ofNat v, 0)).1.2 m = d1.2 m ++ [(3, Int32.ofNat m, dlast d1 m, 0, Int32.ofNat v, 0)] := drecB_2 q
    have s2 := hs.2 q
    have hr' : PM (k + 1) j d m (drecB d1 m (3, Int32.ofNat m, dlast d1 m, 0, Int32.ofNat v, 0)).1 := hr
    generalize (drecB d1 m (3, Int32.ofNat m, dlast d1 m, 0, Int32.ofNat v, 0)).1 = D at e2 s2 hr' ⊢
    have ea : asks (D.2 m) = asks (d1.2 m) := by
      rw [e2, asks_snoc, if_neg (show ¬ (3 : Int32) = 1 by decide)]
      rfl
    have el : dlast D m = dlast d1 m := by
      show Int32.ofNat (asks (D.2 m)) = _
      rw [ea]
    rw [← el]
    have hx : ∀ k', k' ≠ 3 → fR (D.2 m) k' (Int32.ofNat m) (dlast D m) = fR (d1.2 m) k' (Int32.ofNat m) (dlast d1 m) := by
      intro k' hk'
      rw [el, e2]
      exact fR_snoc_x fun z => hk' z.1.symm
    have := hr'.rest (v := v) hm (by omega) (by omega) (by rw [hx 4 (by decide)]; exact h4) (by rw [hx 5 (by decide)]; exact h5) (Or.inr (by
      rw [el, e2]
      intro z
      exact (fR_snoc_n.mp z).2 ⟨rfl, rfl, rfl⟩)) hv'
    refine ⟨this.1, fun z => this.2.1 z, fun z => ?_⟩
    rw [this.2.2 z, s2]
/-- what comes out of a mix -/
theorem outs_le (x : Q4) (j : Nat) : (outs x j).1 ≤ x.1 ∧ (outs x j).2.1 ≤ x.2.1 ∧ (outs x j).2.2.1 ≤ x.2.2.1 ∧ (outs x j).2.2.2 ≤ x.2.2.2 := by
  unfold outs
  exact ⟨Nat.min_le_left _ _, Nat.min_le_left _ _, Nat.min_le_left _ _, Nat.min_le_left _ _⟩
theorem ntake_at {f : Nat → Int32} {m : Nat} {o : Q4} : ntake f m o (4 * m) = f (4 * m) - Int32.ofNat o.1 ∧ ntake f m o (4 * m + 1) = f (4 * m + 1) - Int32.ofNat o.2.1 ∧ ntake f m o (4 * m + 2) = f (4 * m + 2) - Int32.ofNat o.2.2.1 ∧ ntake f m o (4 * m + 3) = f (4 * m + 3) - Int32.ofNat o.2.2.2 := by
  unfold ntake
  refine ⟨?_, ?_, ?_, ?_⟩
  · rw [upd_self]
  · rw [upd_ne (by omega), upd_self]
  · rw [upd_ne (by omega), upd_ne (by omega), upd_self]
  · rw [upd_ne (by omega), upd_ne (by omega), upd_ne (by omega), upd_self]
theorem ntake_ne {f : Nat → Int32} {m : Nat} {o : Q4} {j : Nat} (h : j < 4 * m ∨ 4 * m + 3 < j) : ntake f m o j = f j := by
  unfold ntake
  rw [upd_ne (by omega), upd_ne (by omega), upd_ne (by omega), upd_ne (by omega)]
theorem ntake_ok {f : Nat → Int32} {m v : Nat} {x : Q4} (h : ntok f m) (hx : Feas (nts f m) v x) (j : Nat) : ntok (ntake f m (outs x j)) m := by
  obtain ⟨o0, o1, o2, o3⟩ := outs_le x j
  obtain ⟨x0, x1, x2, x3, -⟩ := hx
  obtain ⟨n0, n1, n2, n3⟩ := @ntake_at f m (outs x j)
  intro c hc
  rcases (show c = 0 ∨ c = 1 ∨ c = 2 ∨ c = 3 by omega) with rfl | rfl | rfl | rfl
  · obtain ⟨e1, e2⟩ := h.eq (c := 0) (by decide)
    refine ⟨nts f m 0 - (outs x j).1, by omega, ?_⟩
    rw [← z_sub (by omega), ← e1]
    exact n0
  · obtain ⟨e1, e2⟩ := h.eq (c := 1) (by decide)
    refine ⟨nts f m 1 - (outs x j).2.1, by omega, ?_⟩
    rw [← z_sub (by omega), ← e1]
    exact n1
  · obtain ⟨e1, e2⟩ := h.eq (c := 2) (by decide)
    refine ⟨nts f m 2 - (outs x j).2.2.1, by omega, ?_⟩
    rw [← z_sub (by omega), ← e1]
    exact n2
  · obtain ⟨e1, e2⟩ := h.eq (c := 3) (by decide)
    refine ⟨nts f m 3 - (outs x j).2.2.2, by omega, ?_⟩
    rw [← z_sub (by omega), ← e1]
    exact n3
theorem wsum_le {f : Nat → Nat} {v : Nat} {x : Q4} (hx : Feas f v x) (j : Nat) : wsum (outs x j) ≤ v := by
  obtain ⟨o0, o1, o2, o3⟩ := outs_le x j
  obtain ⟨-, -, -, -, h, -⟩ := hx
  unfold wsum
  omega
theorem ddisp1_at (d : DS) (m : Nat) (t : Int32) (x : Q4) (acc : Nat) : (ddisp1 d m t x acc).1 13 = ntake (d.1 13) m (outs x (jamN d m)) ∧ (ddisp1 d m t x acc).1 17 = upd (d.1 17) m 41 ∧ (ddisp1 d m t x acc).1 14 = upd (d.1 14) m t ∧ (ddisp1 d m t x acc).1 15 = upd (d.1 15) m (dvalue d m x) ∧ (ddisp1 d m t x acc).1 16 = upd (d.1 16) m (d.1 16 m + dvalue d m x) ∧ (ddisp1 d m t x acc).1 18 = upd (d.1 18) acc (d.1 18 acc + dvalue d m x) ∧ ∀ n, n ≤ 12 → (ddisp1 d m t x acc).1 n = d.1 n := by
  have f_nt : ∀ (d : DS) (n : Nat) (f : Nat → Int32) (k : Nat), k ≠ n → (dfun d n f).1 k = d.1 k := fun d n f k h => gs_ne h
  have f_at : ∀ (d : DS) (n : Nat) (f : Nat → Int32), (dfun d n f).1 n = f := fun d n f => gs_self _ _ _
  unfold ddisp1
  refine ⟨?_, ?_, ?_, ?_, ?_, ?_, fun n hn => ?_⟩
  · rw [f_nt _ _ _ _ (by decide), f_nt _ _ _ _ (by decide), f_nt _ _ _ _ (by decide), f_nt _ _ _ _ (by decide), f_nt _ _ _ _ (by decide), f_at]
  · rw [f_nt _ _ _ _ (by decide), f_nt _ _ _ _ (by decide), f_nt _ _ _ _ (by decide), f_nt _ _ _ _ (by decide), f_at]
  · rw [f_nt _ _ _ _ (by decide), f_nt _ _ _ _ (by decide), f_nt _ _ _ _ (by decide), f_at]
  · rw [f_nt _ _ _ _ (by decide), f_nt _ _ _ _ (by decide), f_at]
  · rw [f_nt _ _ _ _ (by decide), f_at]
  · rw [f_at]
  · rw [f_nt _ _ _ _ (by omega), f_nt _ _ _ _ (by omega), f_nt _ _ _ _ (by omega), f_nt _ _ _ _ (by omega), f_nt _ _ _ _ (by omega), f_nt _ _ _ _ (by omega)]
theorem PM.disp {k j : Nat} {d d1 : DS} {m v : Nat} {t : Int32} {x : Q4} {acc : Nat} (h : PM k j d m d1) (hm : m < 4) (hx : Feas (nts (d1.1 13) m) v x) (hv : v ≤ 1000) : PM k j d m (ddisp d1 m t x acc) ∧ (ddisp d1 m t x acc).1 10 m = d1.1 10 m := by
  unfold ddisp
  split
  · exact ⟨h, rfl⟩
  · obtain ⟨a13, a17, a14, a15, a16, a18, an⟩ := ddisp1_at d1 m t x acc
    obtain ⟨⟨⟨h1, h2, h3, h4, h5, h6, h7⟩, hj⟩, i2, i3, i4, i5, i6⟩ := h
    refine ⟨⟨⟨⟨h1, h2, ?_, ?_, ?_, ?_, ?_⟩, hj⟩, fun m' a b => (i2 m' a b).tr ⟨rfl, fun n b1 b2 b3 => ?_, fun c hc => ?_⟩, i3, i4, i5.eq (an 8 (by decide)), ?_⟩, by rw [an 10 (by decide)]⟩
    · rw [a13]
      exact ntake_ok h3 hx _
    · rw [a17, upd_self]
      exact ⟨41, Nat.le_refl _, rfl⟩
    · rw [an 10 (by decide)]
      exact h5
    · rw [a15, upd_self]
      exact ⟨_, Nat.le_trans (wsum_le hx _) hv, rfl⟩
    · rw [an 11 (by decide)]
      exact h7
    · rcases (show n ≤ 12 ∨ n = 14 ∨ n = 15 ∨ n = 16 ∨ n = 17 by omega) with q | rfl | rfl | rfl | rfl
      · rw [an n q]
      · rw [a14, upd_ne b]
      · rw [a15, upd_ne b]
      · rw [a16, upd_ne b]
      · rw [a17, upd_ne b]
    · rw [a13, ntake_ne (by omega)]
    · rw [an 9 (by decide)]
      exact i6
