section CP
variable {q : Nat → Nat → Int32} {s cp : Nat → Nat} {ls : Nat → List R6} {S : XH} {P : XP} {d : DS}
theorem CB.own (h : CB d q ls) {q' : Nat → Nat → Int32} {ls' : Nat → List R6} (hq : ∀ t, t ≠ 0 → t ≠ 3 → t ≠ 4 → t ≠ 13 → q' t = q t) (hl : ∀ j, j < 6 → ls' j = ls j) : CB d q' ls' := by
  obtain ⟨h1, h2, h3, h4, h5⟩ := h
  refine ⟨fun j hj => (hl j hj).trans (h1 j hj), fun m hm => ?_, ?_, fun w hw => ?_, fun a ha => ?_⟩
  · rw [hq 1 (by decide) (by decide) (by decide) (by decide), hq 2 (by decide) (by decide) (by decide) (by decide), hq 5 (by decide) (by decide) (by decide) (by decide), hq 8 (by decide) (by decide) (by decide) (by decide), hq 9 (by decide) (by decide) (by decide) (by decide), hq 10 (by decide) (by decide) (by decide) (by decide), hq 11 (by decide) (by decide) (by decide) (by decide), hq (20 + m) (by omega) (by omega) (by omega) (by omega)]
    exact h2 m hm
  · rw [hq 5 (by decide) (by decide) (by decide) (by decide)]
    exact h3
  · rw [hq 7 (by decide) (by decide) (by decide) (by decide), hq 6 (by decide) (by decide) (by decide) (by decide)]
    exact h4 w hw
  · rw [hq 12 (by decide) (by decide) (by decide) (by decide)]
    exact h5 a ha
/-- a number that both have is set: t the class's tag, n the state's -/
theorem CB.mset (h : CB d q ls) {m : Nat} {t n : Nat} (htn : (t = 1 ∧ n = 11) ∨ (t = 2 ∧ n = 12) ∨ (t = 8 ∧ n = 17) ∨ (t = 9 ∧ n = 14) ∨ (t = 10 ∧ n = 15) ∨ (t = 11 ∧ n = 16)) (v : Int32) : CB (dset d n m v) (gs q t (upd (q t) m v)) ls := by
  obtain ⟨h1, h2, h3, h4, h5⟩ := h
  have e1 : ∀ k, k ≠ n → (dset d n m v).1 k = d.1 k := fun k hk => gs_ne hk
  have e2 : ∀ k, k ≠ t → gs q t (upd (q t) m v) k = q k := fun k hk => gs_ne hk
  have e3 : (dset d n m v).1 n = upd (d.1 n) m v := gs_self _ _ _
  have e4 : gs q t (upd (q t) m v) t = upd (q t) m v := gs_self _ _ _
  have key : ∀ m', m' < 4 → ∀ t' n', (t' = t ↔ n' = n) → q t' m' = d.1 n' m' → gs q t (upd (q t) m v) t' m' = (dset d n m v).1 n' m' := by
    intro m' hm' t' n' hiff hq
    by_cases e : t' = t
    · have en := hiff.mp e
      subst e
      subst en
      rw [e3, e4]
      unfold upd
      split
      · rfl
      · exact hq
    · rw [e2 t' e, e1 n' (fun z => e (hiff.mpr z))]
      exact hq
  refine ⟨h1, fun m' hm' => ?_, ?_, fun w hw => ?_, fun a ha => ?_⟩
  · obtain ⟨a1, a2, a3, a4, a5, a6, a7, a8⟩ := h2 m' hm'
    refine ⟨key m' hm' 1 11 (by omega) a1, key m' hm' 2 12 (by omega) a2, ?_, key m' hm' 8 17 (by omega) a4, key m' hm' 9 14 (by omega) a5, key m' hm' 10 15 (by omega) a6, key m' hm' 11 16 (by omega) a7, fun c hc => ?_⟩
    · rw [e2 5 (by omega), e1 10 (by omega)]
      exact a3
    · rw [e2 (20 + m') (by omega), e1 13 (by omega)]
      exact a8 c hc
  · rw [e2 5 (by omega), e1 9 (by omega)]
    exact h3
  · rw [e2 7 (by omega), e2 6 (by omega), e1 8 (by omega), e1 7 (by omega)]
    exact h4 w hw
  · rw [e2 12 (by omega), e1 18 (by omega)]
    exact h5 a ha
/-- a machine that is ON changes its state -/
theorem CB.st (h : CB d q ls) {m : Nat} {v : Int32} (h0 : d.1 10 m ≠ 0) (hv : v ≠ 0) : CB (dset d 10 m v) q ls := by
  obtain ⟨h1, h2, h3, h4, h5⟩ := h
  have e1 : ∀ k, k ≠ 10 → (dset d 10 m v).1 k = d.1 k := fun k hk => gs_ne hk
  refine ⟨h1, fun m' hm' => ?_, ?_, fun w hw => ?_, fun a ha => ?_⟩
  · obtain ⟨a1, a2, a3, a4, a5, a6, a7, a8⟩ := h2 m' hm'
    rw [e1 11 (by decide), e1 12 (by decide), e1 17 (by decide), e1 14 (by decide), e1 15 (by decide), e1 16 (by decide), e1 13 (by decide)]
    refine ⟨a1, a2, ?_, a4, a5, a6, a7, a8⟩
    rw [dset_at]
    by_cases e : m' = m
    · subst e
      rw [upd_self, if_neg hv, a3, if_neg h0]
    · rw [upd_ne e]
      exact a3
  · rw [e1 9 (by decide)]
    exact h3
  · rw [e1 8 (by decide), e1 7 (by decide)]
    exact h4 w hw
  · rw [e1 18 (by decide)]
    exact h5 a ha
theorem CM.keep {m : Nat} (h : CM d q s ls m) {d' : DS} {q' : Nat → Nat → Int32} {s' : Nat → Nat} {ls' : Nat → List R6} (e1 : d'.1 10 m = d.1 10 m) (e2 : d'.2 m = d.2 m) (e3 : q' 3 m = q 3 m) (e4 : q' 4 m = q 4 m) (e5 : s' m = s m) (e6 : ls' (6 + m) = ls (6 + m)) : CM d' q' s' ls' m := by
  unfold CM dlast at *
  rw [e1, e2, e3, e4, e5, e6]
  exact h
theorem CK.keep (h : CK d q) {d' : DS} {q' : Nat → Nat → Int32} (e1 : d'.2 4 = d.2 4) (e2 : q' 0 0 = q 0 0) (e3 : q' 13 = q 13) : CK d' q' := by
  unfold CK at *
  rw [e1, e2, e3]
  exact h
theorem CT.keep (h : CT d q) {d' : DS} {q' : Nat → Nat → Int32} (e1 : d'.2 5 = d.2 5) (e2 : q' 0 1 = q 0 1) : CT d' q' := by
  unfold CT at *
  rw [e1, e2]
  exact h
/-- ON or not, and in which state -/
theorem CA.on (h : CA d q s ls) {m : Nat} (hm : m < 4) : q 5 m = (if d.1 10 m = 0 then 0 else 1) := (h.1.2.1 m hm).2.2.1
theorem on01 {x : Int32} : (if x = 0 then (0 : Int32) else 1) = 0 ∨ (if x = 0 then (0 : Int32) else 1) = 1 := by
  split
  · exact Or.inl rfl
  · exact Or.inr rfl
/-- the beginning of many calls of a machine: is it ON, and in the state k (of 4) -/
theorem st_eq {m k : Nat} (h : CM d q s ls m) (h0 : d.1 10 m ≠ 0) (hk : k < 4) : (some (49, s m) = some (49, k)) ↔ d.1 10 m = Int32.ofNat (k + 1) := by
  obtain ⟨a1, a2⟩ := h
  rw [(a2 h0).1]
  constructor
  · intro z
    cases z
    rfl
  · intro z
    have := (z_eq (by omega) (by omega)).mp z
    rw [show s m = k by omega]
end CP
