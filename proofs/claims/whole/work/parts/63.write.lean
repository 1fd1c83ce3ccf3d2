theorem c_recinit {S : XH} {P : XP} {k i : Nat} (hP : P (.inl none) S) : Y_ZRecord_init 0 0 [xv_r k i] S P := by
  refine x_go.run mn_ZRecord_init 5 ?_
  exact ⟨nl rfl, hP⟩
theorem c_einit {S : XH} {P : XP} {p : Nat} (e : R6) (h : S 11 p = some (.inl (6, xD6))) (hP : P (.inl none) (x_up S 11 p (.inl (6, eR e)))) : Y_E_init 0 0 [xv_r 11 p, xv_i e.1, xv_i e.2.1, xv_i e.2.2.1, xv_i e.2.2.2.1, xv_i e.2.2.2.2.1, xv_i e.2.2.2.2.2] S P := by
  have k : ∀ {c : XC}, x_up S 11 p c 11 p = some c := x_up_self _ _ _ _
  refine x_go.run mn_E_init 30 ?_
  refine ⟨rfl, nl rfl, 0, 0, Nat.zero_le _, Nat.zero_le _, c_recinit ?_⟩
  refine ⟨trivial, _, h, nl rfl, nl rfl, ?_⟩
  refine ⟨trivial, _, k, nl rfl, nl rfl, ?_⟩
  rw [x_up_up]
  refine ⟨trivial, _, k, nl rfl, nl rfl, ?_⟩
  rw [x_up_up]
  refine ⟨trivial, _, k, nl rfl, nl rfl, ?_⟩
  rw [x_up_up]
  refine ⟨trivial, _, k, nl rfl, nl rfl, ?_⟩
  rw [x_up_up]
  refine ⟨trivial, _, k, nl rfl, nl rfl, ?_⟩
  rw [x_up_up]
  exact hP
theorem c_einit2 {S : XH} {P : XP} {p : Nat} (kind mach tr v : Int32) (h : S 11 p = some (.inl (6, xD6))) (hP : P (.inl none) (x_up S 11 p (.inl (6, eR (kind, mach, tr, 0, v, 0))))) : Y_E_init_2 0 0 [xv_r 11 p, xv_i kind, xv_i mach, xv_i tr, xv_i v] S P := by
  refine x_go.run mn_E_init_2 10 ?_
  refine ⟨rfl, nl rfl, 0, 0, Nat.zero_le _, Nat.zero_le _, c_einit (kind, mach, tr, 0, v, 0) h ?_⟩
  exact hP
theorem c_ginit {S : XH} {P : XP} {p : Nat} (e : R6) (h : S 10 p = some (.inl (7, xD7))) (hP : P (.inl none) (x_up S 10 p (.inl (7, gR e)))) : Y_G_init 0 0 [xv_r 10 p, xv_r 50 (tyN e.1), xv_i e.2.1, xv_i e.2.2.1, xv_i e.2.2.2.1, xv_i e.2.2.2.2.1, xv_i e.2.2.2.2.2] S P := by
  have k : ∀ {c : XC}, x_up S 10 p c 10 p = some c := x_up_self _ _ _ _
  refine x_go.run mn_G_init 30 ?_
  refine ⟨rfl, nl rfl, 0, 0, Nat.zero_le _, Nat.zero_le _, c_recinit ?_⟩
  refine ⟨trivial, _, h, nl rfl, nl rfl, ?_⟩
  refine ⟨trivial, _, k, nl rfl, nl rfl, ?_⟩
  rw [x_up_up]
  refine ⟨trivial, _, k, nl rfl, nl rfl, ?_⟩
  rw [x_up_up]
  refine ⟨trivial, _, k, nl rfl, nl rfl, ?_⟩
  rw [x_up_up]
  refine ⟨trivial, _, k, nl rfl, nl rfl, ?_⟩
  rw [x_up_up]
  refine ⟨trivial, _, k, nl rfl, nl rfl, ?_⟩
  rw [x_up_up]
  exact hP
theorem RC.lst {q : Nat → Nat → Int32} {s cp : Nat → Nat} {ls : Nat → List R6} {S S' : XH} (h : RC q s cp ls S) {j cap' : Nat} {l' : List R6} (hj : j < 10) (hL : LO S' j cap' l') (ha : laft j S S') : RC q s (fun k => if k = j then cap' else cp k) (fun k => if k = j then l' else ls k) S' := by
  obtain ⟨h0, h1, h2, h3, h4, h5, h6, ⟨f, h7, h7'⟩, h8⟩ := h
  have hk : ∀ k, k ≠ 6 → k ≠ 20 + j → S' k = S k := fun k a b => funext fun i => ha k i (fun z => a z.1) b
  refine ⟨by rw [hk 0 (by decide) (by omega)]; exact h0, by rw [hk 1 (by decide) (by omega)]; exact h1, by rw [hk 2 (by decide) (by omega)]; exact h2, fun m hm => by rw [hk 3 (by decide) (by omega)]; exact h3 m hm, fun m hm => by rw [hk 4 (by decide) (by omega)]; exact h4 m hm, fun m hm => by rw [hk 5 (by decide) (by omega)]; exact h5 m hm, fun m hm => by rw [hk 8 (by decide) (by omega)]; exact h6 m hm, ⟨f, by rw [hk 9 (by decide) (by omega)]; exact h7, h7'⟩, fun j' hj' => ?_⟩
  by_cases e : j' = j
  · subst e
    show LO S' j' (if j' = j' then cap' else cp j') (if j' = j' then l' else ls j')
    rw [if_pos rfl, if_pos rfl]
    exact hL
  · show LO S' j' (if j' = j then cap' else cp j') (if j' = j then l' else ls j')
    rw [if_neg e, if_neg e]
    refine (h8 j' hj').keep (ha 6 j' (by omega) (by omega)) (hk _ (by omega) (by omega)) (hk 54 (by decide) (by omega)) fun p c hc => ?_
    rw [hk (lk j') (by unfold lk; split <;> omega) (by unfold lk; split <;> omega)]
    exact hc
theorem laft.fc {j : Nat} {S S' : XH} (h : laft j S S') (hj : j < 10) : fc S S' := fun k hk => funext fun i => h k i (by omega) (by omega)
theorem laft.k {j : Nat} {S S' : XH} (h : laft j S S') {k : Nat} (h1 : k ≠ 6) (h2 : k ≠ 20 + j) : S' k = S k := funext fun i => h k i (fun z => h1 z.1) h2
/-- the class's numbers and the state -/
def CB (d : DS) (q : Nat → Nat → Int32) (ls : Nat → List R6) : Prop :=
  (∀ j, j < 6 → ls j = d.2 j) ∧ (∀ m, m < 4 → q 1 m = d.1 11 m ∧ q 2 m = d.1 12 m ∧ q 5 m = (if d.1 10 m = 0 then 0 else 1) ∧ q 8 m = d.1 17 m ∧ q 9 m = d.1 14 m ∧ q 10 m = d.1 15 m ∧ q 11 m = d.1 16 m ∧ ∀ c, c < 4 → q (20 + m) c = d.1 13 (4 * m + c)) ∧ q 5 4 = (if d.1 9 0 = 0 then 0 else 1) ∧
  (∀ w, w < 5 → q 7 w = d.1 8 w ∧ d.1 8 w ≤ 17 ∧ (q 7 w ≠ 17 → q 6 w = d.1 7 w)) ∧ ∀ a, a < 200 → q 12 a = d.1 18 a
/-- behind a write of machine or bank w -/
def wst (w : Nat) (q : Nat → Nat → Int32) (cp : Nat → Nat) (ls : Nat → List R6) (S : XH) (q' : Nat → Nat → Int32) (cp' : Nat → Nat) (ls' : Nat → List R6) (S' : XH) : Prop :=
  (∀ t, t < 5 ∨ 8 ≤ t → q' t = q t) ∧ (∀ j, 6 ≤ j → ls' j = ls j) ∧ (∀ j, cp' j = cp j ∨ (j = w ∧ (ls w).length = cp w ∧ cp' j = gc (cp j))) ∧ fc S S' ∧ S' 10 = S 10 ∧ S' 11 = S 11 ∧ RF S'
theorem i_le16 {x : Int32} (h : x ≤ 17) : x ≠ 17 ↔ x ≤ 16 := by
  rw [Int32.le_iff_toInt_le] at h ⊢
  have e1 : (17 : Int32).toInt = 17 := rfl
  have e2 : (16 : Int32).toInt = 16 := rfl
  rw [e1] at h
  rw [e2]
  constructor
  · intro q
    have : x.toInt ≠ 17 := fun z => q (by rw [← Int32.toInt_inj, z]; rfl)
    omega
  · rintro q rfl
    rw [e1] at q
    omega
theorem dset_at (d : DS) (n j : Nat) (v : Int32) : (dset d n j v).1 n = upd (d.1 n) j v := gs_self _ _ _
theorem dapp_1 (d : DS) (w : Nat) (e : R6) : (dapp d w e).1 = d.1 := rfl
/-- a record is written, the numbers follow -/
theorem CB.app {d : DS} {q : Nat → Nat → Int32} {ls : Nat → List R6} (h : CB d q ls) {w : Nat} {e : R6} (hw : w < 6) : CB (dapp d w e) q (fun k => if k = w then ls k ++ [e] else ls k) := by
  refine ⟨fun j hj => ?_, h.2⟩
  show (if j = w then ls j ++ [e] else ls j) = (if j = w then d.2 j ++ [e] else d.2 j)
  rw [h.1 j hj]
theorem CB.left {d : DS} {q : Nat → Nat → Int32} {ls : Nat → List R6} (h : CB d q ls) {w : Nat} (hw : w < 5) : CB (dset d 7 w (d.1 7 w - 1)) (if q 7 w ≠ 17 then gs q 6 (upd (q 6) w (q 6 w - 1)) else q) ls := by
  obtain ⟨h1, h2, h3, h4, h5⟩ := h
  have e1 : ∀ n, n ≠ 7 → (dset d 7 w (d.1 7 w - 1)).1 n = d.1 n := fun n hn => gs_ne hn
  have e2 : ∀ t, t ≠ 6 → (if q 7 w ≠ 17 then gs q 6 (upd (q 6) w (q 6 w - 1)) else q) t = q t := fun t ht => by
    split
    · exact gs_ne ht
    · rfl
  refine ⟨h1, fun m hm => ?_, ?_, fun w' hw' => ?_, fun a ha => ?_⟩
  · rw [e2 1 (by decide), e2 2 (by decide), e2 5 (by decide), e2 8 (by decide), e2 9 (by decide), e2 10 (by decide), e2 11 (by decide), e2 (20 + m) (by omega), e1 11 (by decide), e1 12 (by decide), e1 10 (by decide), e1 17 (by decide), e1 14 (by decide), e1 15 (by decide), e1 16 (by decide), e1 13 (by decide)]
    exact h2 m hm
  · rw [e2 5 (by decide), e1 9 (by decide)]
    exact h3
  · rw [e2 7 (by decide), e1 8 (by decide)]
    obtain ⟨a1, a2, a3⟩ := h4 w' hw'
    refine ⟨a1, a2, fun hne => ?_⟩
    by_cases ew : w' = w
    · subst ew
      rw [if_pos hne, gs_self, upd_self, a3 hne, dset_at, upd_self]
    · have : (dset d 7 w (d.1 7 w - 1)).1 7 w' = d.1 7 w' := by
        rw [dset_at, upd_ne ew]
      rw [this]
      split
      · rw [gs_self, upd_ne ew]
        exact a3 hne
      · exact a3 hne
  · rw [e2 12 (by decide), e1 18 (by decide)]
    exact h5 a ha
theorem CB.fail {d : DS} {q : Nat → Nat → Int32} {ls : Nat → List R6} (h : CB d q ls) {w : Nat} (hw : w < 5) : CB (doff (dset d 8 w 17) w) (gs (gs q 7 (upd (q 7) w 17)) 5 (upd (q 5) w 0)) ls := by
  obtain ⟨h1, h2, h3, h4, h5⟩ := h
  have f8 : (doff (dset d 8 w 17) w).1 8 = upd (d.1 8) w 17 := by
    unfold doff
    split
    · rfl
    · rfl
  have fo : ∀ n, n ≠ 8 → n ≠ 9 → n ≠ 10 → (doff (dset d 8 w 17) w).1 n = d.1 n := fun n a b c => by
    unfold doff
    split
    · show gs (gs _ 8 _) 9 _ n = _
      rw [gs_ne b, gs_ne a]
    · show gs (gs _ 8 _) 10 _ n = _
      rw [gs_ne c, gs_ne a]
  refine ⟨fun j hj => by rw [doff_2]; exact h1 j hj, fun m hm => ?_, ?_, fun w' hw' => ?_, fun a ha => ?_⟩
  · obtain ⟨a1, a2, a3, a4, a5, a6, a7, a8⟩ := h2 m hm
    rw [fo 11 (by decide) (by decide) (by decide), fo 12 (by decide) (by decide) (by decide), fo 17 (by decide) (by decide) (by decide), fo 14 (by decide) (by decide) (by decide), fo 15 (by decide) (by decide) (by decide), fo 16 (by decide) (by decide) (by decide), fo 13 (by decide) (by decide) (by decide)]
    refine ⟨a1, a2, ?_, a4, a5, a6, a7, fun c hc => ?_⟩
    · rw [gs_self]
      by_cases em : m = w
      · subst em
        rw [upd_self, show doff (dset d 8 m 17) m = dset (dset d 8 m 17) 10 m 0 from if_neg (by omega), dset_at, upd_self, if_pos rfl]
      · rw [upd_ne em, a3]
        by_cases e4 : w = 4
        · rw [show doff (dset d 8 w 17) w = dset (dset d 8 w 17) 9 0 0 from if_pos e4]
          rfl
        · rw [show doff (dset d 8 w 17) w = dset (dset d 8 w 17) 10 w 0 from if_neg e4, dset_at, upd_ne em]
          rfl
    · rw [gs_ne (by omega), gs_ne (by omega)]
      exact a8 c hc
  · rw [gs_self]
    by_cases ew : w = 4
    · subst ew
      rw [upd_self]
      rfl
    · rw [upd_ne (by omega), h3]
      unfold doff
      rw [if_neg ew]
      rfl
  · obtain ⟨a1, a2, a3⟩ := h4 w' hw'
    rw [f8, gs_ne (by decide), gs_self, fo 7 (by decide) (by decide) (by decide), gs_ne (by decide), gs_ne (by decide)]
    by_cases ew : w' = w
    · subst ew
      rw [upd_self, upd_self]
      exact ⟨rfl, by decide, fun z => (z rfl).elim⟩
    · rw [upd_ne ew, upd_ne ew]
      exact ⟨a1, a2, a3⟩
  · rw [gs_ne (by decide), gs_ne (by decide), fo 18 (by decide) (by decide) (by decide)]
    exact h5 a ha
