/-! what holds of the state at any time -/
def okM (e : R6) : Prop := ∃ ty M t a v r, e = (Int32.ofNat ty, Int32.ofNat M, Int32.ofNat t, Int32.ofNat a, Int32.ofNat v, Int32.ofNat r) ∧ (ty = 200 ∨ ty = 210 ∨ ty = 420 ∨ ty = 430 ∨ ty = 500 ∨ ty = 510) ∧ M < 4 ∧ t ≤ 2000 ∧ a < 200 ∧ v ≤ 2000000 ∧ r < 10 ∧ (ty = 420 → 1 ≤ v) ∧ (ty = 200 ∨ ty = 420 → v ≤ 1000)
def I0 (k : Nat) (d : DS) (m : Nat) : Prop := Jok m (d.2 m) ∧ (d.2 m).length ≤ k ∧ ntok (d.1 13) m ∧ (∃ j, j ≤ 41 ∧ d.1 17 m = Int32.ofNat j) ∧ (∃ s, s ≤ 4 ∧ d.1 10 m = Int32.ofNat s) ∧ (∃ v, v ≤ 1000 ∧ d.1 15 m = Int32.ofNat v) ∧ (∃ a, a < 200 ∧ d.1 11 m = Int32.ofNat a)
def Fr (d : DS) (m : Nat) : Prop := 1 ≤ asks (d.2 m) ∧ fR (d.2 m) 2 (Int32.ofNat m) (dlast d m) = none ∧ fR (d.2 m) 3 (Int32.ofNat m) (dlast d m) = none ∧ fR (d.2 m) 4 (Int32.ofNat m) (dlast d m) = none ∧ fR (d.2 m) 5 (Int32.ofNat m) (dlast d m) = none ∧ ∃ e, fR (d.2 m) 1 (Int32.ofNat m) (dlast d m) = some e ∧ e.2.2.2.1 = d.1 11 m
def IM (n : Nat) (d : DS) (m : Nat) : Prop := I0 (2 * n) d m ∧ (d.1 10 m = 4 → Fr d m ∧ (d.2 m).length + 1 ≤ 2 * n) ∧ asks (d.2 m) ≤ n
def pwok (d : DS) : Prop := ∀ w, w < 5 → ∃ b, b ≤ 17 ∧ d.1 8 w = Int32.ofNat b
def IG (n : Nat) (d : DS) : Prop := Bok (d.2 4) ∧ (d.2 4).length ≤ n ∧ (∀ e ∈ d.2 5, okM e) ∧ pwok d ∧ (d.1 9 0 = 0 ∨ d.1 9 0 = 1)
/-- after n calls -/
def Inv (n : Nat) (d : DS) : Prop := (∀ m, m < 4 → IM n d m) ∧ IG n d
def sameM (d d' : DS) (m : Nat) : Prop := d'.2 m = d.2 m ∧ (∀ n, 10 ≤ n → n ≤ 17 → n ≠ 13 → d'.1 n m = d.1 n m) ∧ ∀ c, c < 4 → d'.1 13 (4 * m + c) = d.1 13 (4 * m + c)
theorem sameM.rf {d : DS} {m : Nat} : sameM d d m := ⟨rfl, fun _ _ _ _ => rfl, fun _ _ => rfl⟩
theorem sameM.tr {d d' d'' : DS} {m : Nat} (h : sameM d d' m) (h' : sameM d' d'' m) : sameM d d'' m := ⟨h'.1.trans h.1, fun n a b c => (h'.2.1 n a b c).trans (h.2.1 n a b c), fun c hc => (h'.2.2 c hc).trans (h.2.2 c hc)⟩
theorem I0.same {k : Nat} {d d' : DS} {m : Nat} (h : I0 k d m) (s : sameM d d' m) : I0 k d' m := by
  obtain ⟨h1, h2, h3, h4, h5, h6, h7⟩ := h
  obtain ⟨s1, s2, s3⟩ := s
  refine ⟨by rw [s1]; exact h1, by rw [s1]; exact h2, fun c hc => ?_, by rw [s2 17 (by decide) (by decide) (by decide)]; exact h4, by rw [s2 10 (by decide) (by decide) (by decide)]; exact h5, by rw [s2 15 (by decide) (by decide) (by decide)]; exact h6, by rw [s2 11 (by decide) (by decide) (by decide)]; exact h7⟩
  rw [s3 c hc]
  exact h3 c hc
theorem I0.mono {k k' : Nat} {d : DS} {m : Nat} (h : I0 k d m) (hk : k ≤ k') : I0 k' d m := ⟨h.1, by have := h.2.1; omega, h.2.2⟩
theorem Fr.same {d d' : DS} {m : Nat} (h : Fr d m) (s : sameM d d' m) : Fr d' m := by
  unfold Fr dlast
  rw [s.1, s.2.1 11 (by decide) (by decide) (by decide)]
  exact h
theorem IM.same {n : Nat} {d d' : DS} {m : Nat} (h : IM n d m) (s : sameM d d' m) : IM n d' m := by
  refine ⟨h.1.same s, ?_⟩
  rw [s.2.1 10 (by decide) (by decide) (by decide), s.1]
  exact ⟨fun q => ⟨(h.2.1 q).1.same s, (h.2.1 q).2⟩, h.2.2⟩
theorem IM.mono {n n' : Nat} {d : DS} {m : Nat} (h : IM n d m) (hn : n ≤ n') : IM n' d m := ⟨h.1.mono (by omega), fun q => ⟨(h.2.1 q).1, by have := (h.2.1 q).2; omega⟩, by have := h.2.2; omega⟩
theorem dset_at' (d : DS) (n j : Nat) (v : Int32) : (dset d n j v).1 n j = v := by
  show gs d.1 n _ n j = _
  rw [gs_self, upd_self]
theorem dset_nt {d : DS} {n j k : Nat} {v : Int32} (h : k ≠ n) : (dset d n j v).1 k = d.1 k := gs_ne h
theorem dset_nj {d : DS} {n j k : Nat} {v : Int32} (h : k ≠ j) : (dset d n j v).1 n k = d.1 n k := by
  show gs d.1 n _ n k = _
  rw [gs_self, upd_ne h]
theorem drec_in (d : DS) (w : Nat) (e : R6) : ∃ D : DS, D.1 = d.1 ∧ drec d w e = if dfailsb d w = true then doff (dset D 8 w 17) w else dset (dapp d w e) 7 w (d.1 7 w - 1) :=
  ⟨if d.1 8 w = 16 then dapp d w e else d, by split <;> rfl, rfl⟩
theorem drec_10 (d : DS) (w : Nat) (e : R6) (k : Nat) : (drec d w e).1 10 k = if dfailsb d w = true ∧ w ≠ 4 ∧ k = w then 0 else d.1 10 k := by
  obtain ⟨D, hD, h⟩ := drec_in d w e
  rw [h]
  unfold doff
  by_cases h : dfailsb d w = true
  · rw [if_pos h]
    by_cases h4 : w = 4
    · rw [if_pos h4, if_neg (fun q => q.2.1 h4), dset_nt (by decide), dset_nt (by decide), hD]
    · rw [if_neg h4]
      by_cases hk : k = w
      · subst hk
        rw [dset_at', if_pos ⟨h, h4, rfl⟩]
      · rw [dset_nj hk, if_neg (fun q => hk q.2.2), dset_nt (by decide), hD]
  · rw [if_neg h, if_neg (fun q => h q.1), dset_nt (by decide)]
    rfl
theorem drec_9 (d : DS) (w : Nat) (e : R6) : (drec d w e).1 9 0 = if dfailsb d w = true ∧ w = 4 then 0 else d.1 9 0 := by
  obtain ⟨D, hD, h⟩ := drec_in d w e
  rw [h]
  unfold doff
  by_cases h : dfailsb d w = true
  · rw [if_pos h]
    by_cases h4 : w = 4
    · rw [if_pos h4, if_pos ⟨h, h4⟩, dset_at']
    · rw [if_neg h4, if_neg (fun q => h4 q.2), dset_nt (by decide), dset_nt (by decide), hD]
  · rw [if_neg h, if_neg (fun q => h q.1), dset_nt (by decide)]
    rfl
theorem drec_8 (d : DS) (w : Nat) (e : R6) (k : Nat) : (drec d w e).1 8 k = d.1 8 k ∨ (drec d w e).1 8 k = 17 := by
  obtain ⟨D, hD, h⟩ := drec_in d w e
  rw [h]
  unfold doff
  by_cases h : dfailsb d w = true
  · rw [if_pos h]
    have key : (dset D 8 w 17).1 8 k = d.1 8 k ∨ (dset D 8 w 17).1 8 k = 17 := by
      by_cases hk : k = w
      · subst hk
        exact Or.inr (dset_at' _ _ _ _)
      · rw [dset_nj hk, hD]
        exact Or.inl rfl
    by_cases h4 : w = 4
    · rw [if_pos h4, dset_nt (by decide)]
      exact key
    · rw [if_neg h4, dset_nt (by decide)]
      exact key
  · rw [if_neg h, dset_nt (by decide)]
    exact Or.inl rfl
theorem pwok.rec {d : DS} (h : pwok d) (w : Nat) (e : R6) : pwok (drec d w e) := by
  intro k hk
  rcases drec_8 d w e k with q | q
  · rw [q]
    exact h k hk
  · exact ⟨17, Nat.le_refl _, q⟩
theorem pwok.eq {d d' : DS} (h : pwok d) (h' : d'.1 8 = d.1 8) : pwok d' := by
  unfold pwok
  rw [h']
  exact h
theorem drec_same {d : DS} {w : Nat} {e : R6} {m : Nat} (hm : m ≠ w) : sameM d (drec d w e) m := by
  refine ⟨drec_ne hm, fun n h1 h2 h3 => ?_, fun c hc => by rw [drec_1 (by decide)]⟩
  by_cases h : n = 10
  · subst h
    rw [drec_10, if_neg (fun q => hm q.2.2)]
  · rw [drec_1 (by omega)]
theorem dsent_same (d : DS) (e : R6) {m : Nat} (hm : m ≠ 5) : sameM d (dsent d e) m := ⟨dsent_ne hm, fun n _ _ _ => by rw [dsent_1], fun c _ => by rw [dsent_1]⟩
theorem dset_same {d : DS} {m m' : Nat} {n : Nat} {v : Int32} (hm : m' ≠ m) (hn : n ≠ 13) : sameM d (dset d n m v) m' := by
  refine ⟨rfl, fun k _ _ _ => ?_, fun c _ => ?_⟩
  · show gs d.1 n _ k m' = _
    by_cases h : k = n
    · subst h
      rw [gs_self, upd_ne hm]
    · rw [gs_ne h]
  · show gs d.1 n _ 13 _ = _
    rw [gs_ne (by omega)]
theorem okM.sent {d : DS} {e : R6} (h : ∀ x ∈ d.2 5, okM x) (he : okM e) : ∀ x ∈ (dsent d e).2 5, okM x := by
  unfold dsent
  split
  · exact h
  · intro x hx
    change x ∈ (if (5 : Nat) = 5 then d.2 5 ++ [e] else d.2 5) at hx
    rw [if_pos rfl] at hx
    rcases List.mem_append.mp hx with q | q
    · exact h x q
    · rw [List.mem_singleton.mp q]
      exact he
/-- machine m has done something -/
def PM (k j : Nat) (d : DS) (m : Nat) (d' : DS) : Prop := (I0 k d' m ∧ asks (d'.2 m) ≤ j) ∧ (∀ m', m' < 4 → m' ≠ m → sameM d d' m') ∧ d'.2 4 = d.2 4 ∧ (∀ e ∈ d'.2 5, okM e) ∧ pwok d' ∧ d'.1 9 0 = d.1 9 0
theorem PM.mono {k k' j : Nat} {d : DS} {m : Nat} {d' : DS} (h : PM k j d m d') (hk : k ≤ k') : PM k' j d m d' := ⟨⟨h.1.1.mono hk, h.1.2⟩, h.2⟩
theorem Inv.pm {n : Nat} {d : DS} {m : Nat} (h : Inv n d) (hm : m < 4) : PM (2 * n) n d m d := ⟨⟨(h.1 m hm).1, (h.1 m hm).2.2⟩, fun _ _ _ => sameM.rf, rfl, h.2.2.2.1, h.2.2.2.2.1, rfl⟩
theorem PM.inv {n k j : Nat} {d : DS} {m : Nat} {d' : DS} (hi : Inv n d) (h : PM k j d m d') (hk : k ≤ 2 * (n + 1) ∧ j ≤ n + 1) (hs : d'.1 10 m = 4 → Fr d' m ∧ (d'.2 m).length + 1 ≤ 2 * (n + 1)) : Inv (n + 1) d' := by
  refine ⟨fun m' hm' => ?_, ?_, ?_, h.2.2.2.1, h.2.2.2.2.1, ?_⟩
  · by_cases e : m' = m
    · subst e
      exact ⟨h.1.1.mono hk.1, hs, Nat.le_trans h.1.2 hk.2⟩
    · exact ((hi.1 m' hm').same (h.2.1 m' hm' e)).mono (by omega)
  · rw [h.2.2.1]
    exact hi.2.1
  · rw [h.2.2.1]
    have := hi.2.2.1
    omega
  · rw [h.2.2.2.2.2]
    exact hi.2.2.2.2.2
theorem PM.rec1 {k j : Nat} {d d1 : DS} {m : Nat} {e : R6} (h : PM k j d m d1) (hm : m < 4) (he : okrec m (d1.2 m) e) : PM (k + 1) (j + (if e.1 = 1 then 1 else 0)) d m (drec d1 m e) := by
  obtain ⟨⟨⟨h1, h2, h3, h4, h5, h6, h7⟩, hj⟩, i2, i3, i4, i5, i6⟩ := h
  refine ⟨⟨⟨?_, ?_, ?_, ?_, ?_, ?_, ?_⟩, ?_⟩, fun m' a b => (i2 m' a b).tr (drec_same b), ?_, ?_, i5.rec m e, ?_⟩
  · rcases drec_self d1 m e with q | q
    · rw [q]
      exact h1
    · rw [q]
      exact Pok.snoc h1 he
  · rcases drec_self d1 m e with q | q
    · rw [q]
      omega
    · rw [q, List.length_append]
      show (d1.2 m).length + 1 ≤ _
      omega
  · rw [drec_1 (by decide)]
    exact h3
  · rw [drec_1 (by decide)]
    exact h4
  · rw [drec_10]
    split
    · exact ⟨0, by decide, rfl⟩
    · exact h5
  · rw [drec_1 (by decide)]
    exact h6
  · rw [drec_1 (by decide)]
    exact h7
  · rcases drec_self d1 m e with q | q
    · rw [q]
      omega
    · rw [q, asks_snoc]
      omega
  · rw [drec_ne (by omega)]
    exact i3
  · rw [drec_ne (by omega)]
    exact i4
  · rw [drec_9, if_neg (fun q => by omega)]
    exact i6
theorem PM.rec {k j : Nat} {d d1 : DS} {m : Nat} {e : R6} (h : PM k j d m d1) (hm : m < 4) (he : okrec m (d1.2 m) e) (h1 : e.1 ≠ 1) : PM (k + 1) j d m (drec d1 m e) := by
  have := h.rec1 hm he
  rw [if_neg h1] at this
  exact this
theorem PM.sent {k j : Nat} {d d1 : DS} {m : Nat} {e : R6} (h : PM k j d m d1) (hm : m < 4) (he : okM e) : PM k j d m (dsent d1 e) :=
  ⟨⟨h.1.1.same (dsent_same _ _ (by omega)), by rw [dsent_ne (by omega)]; exact h.1.2⟩, fun m' a b => (h.2.1 m' a b).tr (dsent_same _ _ (by omega)), by rw [dsent_ne (by decide)]; exact h.2.2.1, okM.sent h.2.2.2.1 he, h.2.2.2.2.1.eq (by rw [dsent_1]), by rw [dsent_1]; exact h.2.2.2.2.2⟩
theorem PM.set10 {k j : Nat} {d d1 : DS} {m : Nat} (h : PM k j d m d1) {s : Nat} (hs : s ≤ 4) : PM k j d m (dset d1 10 m (Int32.ofNat s)) := by
  obtain ⟨⟨⟨h1, h2, h3, h4, h5, h6, h7⟩, hj⟩, i2, i3, i4, i5, i6⟩ := h
  refine ⟨⟨⟨h1, h2, ?_, ?_, ⟨s, hs, dset_at' _ _ _ _⟩, ?_, ?_⟩, hj⟩, fun m' a b => (i2 m' a b).tr (dset_same b (by decide)), i3, i4, i5.eq (dset_nt (by decide)), ?_⟩
  · rw [dset_nt (by decide)]
    exact h3
  · rw [dset_nt (by decide)]
    exact h4
  · rw [dset_nt (by decide)]
    exact h6
  · rw [dset_nt (by decide)]
    exact h7
  · rw [dset_nt (by decide)]
    exact i6
