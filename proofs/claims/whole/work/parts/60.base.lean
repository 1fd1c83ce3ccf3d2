/-! THE CLASS: its heap -/
def eR (e : R6) : List XV := [xv_i e.1, xv_i e.2.1, xv_i e.2.2.1, xv_i e.2.2.2.1, xv_i e.2.2.2.2.1, xv_i e.2.2.2.2.2]
def tyN (t : Int32) : Nat := if t = 200 then 0 else if t = 210 then 1 else if t = 420 then 2 else if t = 430 then 3 else if t = 500 then 4 else 5
def gR (e : R6) : List XV := [xv_r 50 (tyN e.1), xv_i e.2.1, xv_i e.2.2.1, xv_i e.2.2.2.1, xv_i e.2.2.2.2.1, xv_i e.2.2.2.2.2]
/-- of the lists (journals 0 to 4, messages 5, VOIDS 6 to 9): their elements' kind, class and fields; their arrays lie at kind 20 + j -/
def lk (j : Nat) : Nat := if j = 5 then 10 else 11
def lcl (j : Nat) : Nat := if j = 5 then 7 else 6
def lR (j : Nat) (e : R6) : List XV := if j = 5 then gR e else eR e
def LO (S : XH) (j cap : Nat) (l : List R6) : Prop := ∃ (k a : Nat) (f : Nat → Option (Nat × Nat)) (md : Int32), S 6 j = some (.inl (8, [xv_r k a, xv_i (Int32.ofNat l.length), xv_i md])) ∧ S k a = some (.inr (3, cap, .inr (.inr f))) ∧ l.length ≤ cap ∧ cap ≤ 10000 ∧ ((k = 54 ∧ a = 0 ∧ cap = 0) ∨ (k = 20 + j ∧ 10 ≤ cap)) ∧ ∀ i (h : i < l.length), ∃ p, f i = some (lk j, p) ∧ S (lk j) p = some (.inl (lcl j, lR j l[i]))
/-- S' has all cells of S -/
def xsub (S S' : XH) : Prop := ∀ k i c, S k i = some c → S' k i = some c
theorem xsub.rf {S : XH} : xsub S S := fun _ _ _ h => h
theorem xsub.tr {S S' S'' : XH} (h : xsub S S') (h' : xsub S' S'') : xsub S S'' := fun k i c q => h' k i c (h k i c q)
theorem xsub.new {S S' : XH} {k i : Nat} {c : XC} (h : xsub S S') (h0 : S k i = none) : xsub S (x_up S' k i c) := fun k' i' c' q => by
  rw [x_up_ne]
  · exact h k' i' c' q
  · rintro ⟨rfl, rfl⟩
    rw [h0] at q
    cases q
theorem LO.sub {S S' : XH} {j cap : Nat} {l : List R6} (h : LO S j cap l) (h' : xsub S S') : LO S' j cap l := by
  obtain ⟨k, a, f, md, h1, h2, h3, h4, h5, h6⟩ := h
  refine ⟨k, a, f, md, h' _ _ _ h1, h' _ _ _ h2, h3, h4, h5, fun i hi => ?_⟩
  obtain ⟨p, q1, q2⟩ := h6 i hi
  exact ⟨p, q1, h' _ _ _ q2⟩
/-- what a list needs of the heap -/
def lkeep (j : Nat) (S S' : XH) : Prop := S' 6 j = S 6 j ∧ S' (20 + j) = S (20 + j) ∧ S' 54 = S 54 ∧ xsub S S'
theorem LO.keep {S S' : XH} {j cap : Nat} {l : List R6} (h : LO S j cap l) (h1' : S' 6 j = S 6 j) (h2' : S' (20 + j) = S (20 + j)) (h3' : S' 54 = S 54) (h4' : ∀ p c, S (lk j) p = some c → S' (lk j) p = some c) : LO S' j cap l := by
  obtain ⟨k, a, f, md, h1, h2, h3, h4, h5, h6⟩ := h
  refine ⟨k, a, f, md, by rw [h1']; exact h1, ?_, h3, h4, h5, fun i hi => ?_⟩
  · rcases h5 with ⟨rfl, -⟩ | ⟨rfl, -⟩
    · rw [h3']
      exact h2
    · rw [h2']
      exact h2
  · obtain ⟨p, q1, q2⟩ := h6 i hi
    exact ⟨p, q1, h4' _ _ q2⟩
/-- the class's objects: q its numbers (0: booked, wrongTotals; 1 to 4: a machine's account, wrongPins, trace, amount; 5 to 7: a journal's powered, recordsBeforeFailure, bytesAtFailure; 8 to 11: a dispenser's jamAfter, lastTrace, lastValue, allValue; 12 takenBy; 13 balances; 20 on: notes), s the machines' states, cp the lists' room, ls the lists -/
def jlim (w : Nat) : Int32 := if w = 4 then 4000 else 1200
def oC : List XV := [xv_r 1 0, xv_r 2 0, xv_r 9 0, xv_r 8 0]
def oB (q : Nat → Nat → Int32) : List XV := [xv_r 1 0, xv_r 4 4, xv_r 8 1, xv_i (q 0 0), xv_i (q 0 1)]
def oM (q : Nat → Nat → Int32) (s : Nat → Nat) (m : Nat) : List XV := [xv_i (Int32.ofNat m), xv_r 1 0, xv_r 8 0, xv_r 4 m, xv_r 5 m, xv_r 49 (s m), xv_i (q 1 m), xv_i (q 2 m), xv_i (q 3 m), xv_i (q 4 m), xv_r 6 (6 + m)]
def oJ (q : Nat → Nat → Int32) (w : Nat) : List XV := [xv_r 6 w, xv_i (jlim w), xv_i (q 5 w), xv_i (q 6 w), xv_i (q 7 w)]
def oD (q : Nat → Nat → Int32) (m : Nat) : List XV := [xv_r 8 (2 + m), xv_i (q 8 m), xv_i (q 9 m), xv_i (q 10 m), xv_i (q 11 m)]
def an (n : Nat) : Nat := if n < 2 then 200 else 4
def aq (n : Nat) : Nat := if n = 0 then 12 else if n = 1 then 13 else 18 + n
theorem aq_ge (n : Nat) : 12 ≤ aq n := by
  unfold aq
  split
  · omega
  · split <;> omega
def RC (q : Nat → Nat → Int32) (s cp : Nat → Nat) (ls : Nat → List R6) (S : XH) : Prop :=
  S 0 0 = some (.inl (0, oC)) ∧ S 1 0 = some (.inl (1, [xv_r 6 5])) ∧ S 2 0 = some (.inl (2, oB q)) ∧ (∀ m, m < 4 → S 3 m = some (.inl (3, oM q s m))) ∧ (∀ w, w < 5 → S 4 w = some (.inl (4, oJ q w))) ∧ (∀ m, m < 4 → S 5 m = some (.inl (5, oD q m))) ∧
  (∀ n, n < 6 → S 8 n = some (.inr (0, an n, .inl (q (aq n))))) ∧ (∃ f, S 9 0 = some (.inr (4, 4, .inr (.inr f))) ∧ ∀ m, m < 4 → f m = some (3, m)) ∧ (∀ j, j < 10 → LO S j (cp j) (ls j))
/-- places for new objects -/
def RF (S : XH) : Prop := ∃ n, ∀ i, n ≤ i → S 10 i = none ∧ S 11 i = none ∧ S 12 i = none ∧ S 13 i = none ∧ S 14 i = none ∧ ∀ j, j < 10 → S (20 + j) i = none
/-- outside the class's kinds the heap is as it was -/
def fc (S S' : XH) : Prop := ∀ k, (15 ≤ k ∧ k < 20) ∨ 30 ≤ k → S' k = S k
theorem fc.rf {S : XH} : fc S S := fun _ _ => rfl
theorem fc.tr {S S' S'' : XH} (h : fc S S') (h' : fc S' S'') : fc S S'' := fun k q => (h' k q).trans (h k q)
def rk (S : XH) : Prop := S 54 0 ≠ none ∧ S 55 0 ≠ none
theorem rk.of {S S' : XH} (h : rk S) (h1 : S' 54 = S 54) (h2 : S' 55 = S 55) : rk S' := by
  unfold rk
  rw [h1, h2]
  exact h
theorem rk.fc {S S' : XH} (h : rk S) (h' : fc S S') : rk S' := h.of (h' 54 (Or.inr (by decide))) (h' 55 (Or.inr (by decide)))
theorem fc.up {S S' : XH} {k i : Nat} {c : XC} (h : fc S S') (h1 : k < 15 ∨ (20 ≤ k ∧ k < 30)) : fc S (x_up S' k i c) := fun k' q => by
  rw [x_up_k (by omega)]
  exact h k' q
theorem RC.sub {q : Nat → Nat → Int32} {s cp : Nat → Nat} {ls : Nat → List R6} {S S' : XH} (h : RC q s cp ls S) (h' : xsub S S') : RC q s cp ls S' := by
  obtain ⟨h0, h1, h2, h3, h4, h5, h6, ⟨f, h7, h7'⟩, h8⟩ := h
  exact ⟨h' _ _ _ h0, h' _ _ _ h1, h' _ _ _ h2, fun m hm => h' _ _ _ (h3 m hm), fun m hm => h' _ _ _ (h4 m hm), fun m hm => h' _ _ _ (h5 m hm), fun m hm => h' _ _ _ (h6 m hm), ⟨f, h' _ _ _ h7, h7'⟩, fun j hj => (h8 j hj).sub h'⟩
theorem RF.up {S : XH} {k i : Nat} {c : XC} (h : RF S) : RF (x_up S k i c) := by
  obtain ⟨n, hn⟩ := h
  refine ⟨n + i + 1, fun i' hi => ?_⟩
  obtain ⟨a1, a2, a3, a4, a5, a6⟩ := hn i' (by omega)
  rw [x_up_ne (by omega), x_up_ne (by omega), x_up_ne (by omega), x_up_ne (by omega), x_up_ne (by omega)]
  exact ⟨a1, a2, a3, a4, a5, fun j hj => by rw [x_up_ne (by omega)]; exact a6 j hj⟩
/-- a field's or an element's store -/
theorem RC.putM {q : Nat → Nat → Int32} {s cp : Nat → Nat} {ls : Nat → List R6} {S : XH} (h : RC q s cp ls S) {m : Nat} (hm : m < 4) {t : Nat} (ht : 1 ≤ t ∧ t ≤ 4) (v : Int32) : RC (gs q t (upd (q t) m v)) s cp ls (x_up S 3 m (.inl (3, (oM q s m).set (5 + t) (xv_i v)))) := by
  obtain ⟨h0, h1, h2, h3, h4, h5, h6, ⟨f, h7, h7'⟩, h8⟩ := h
  refine ⟨by rw [x_up_k (by decide)]; exact h0, by rw [x_up_k (by decide)]; exact h1, ?_, fun m' hm' => ?_, fun w hw => ?_, fun m' hm' => ?_, fun n hn => ?_, ⟨f, by rw [x_up_k (by decide)]; exact h7, h7'⟩, fun j hj => (h8 j hj).keep ?_ ?_ ?_ ?_⟩
  · rw [x_up_k (by decide), h2]
    unfold oB
    rw [gs_ne (by omega)]
  · by_cases e : m' = m
    · subst e
      rw [x_up_self]
      unfold oM
      rcases (show t = 1 ∨ t = 2 ∨ t = 3 ∨ t = 4 by omega) with rfl | rfl | rfl | rfl <;> simp [gs, upd]
    · rw [x_up_ne (by omega), h3 m' hm']
      unfold oM
      rcases (show t = 1 ∨ t = 2 ∨ t = 3 ∨ t = 4 by omega) with rfl | rfl | rfl | rfl <;> simp [gs, upd, e]
  · rw [x_up_k (by decide), h4 w hw]
    unfold oJ
    rw [gs_ne (by omega), gs_ne (by omega), gs_ne (by omega)]
  · rw [x_up_k (by decide), h5 m' hm']
    unfold oD
    rw [gs_ne (by omega), gs_ne (by omega), gs_ne (by omega), gs_ne (by omega)]
  · rw [x_up_k (by decide), gs_ne (by have := aq_ge n; omega)]
    exact h6 n hn
  · rw [x_up_k (by decide)]
  · rw [x_up_k (by omega)]
  · rw [x_up_k (by decide)]
  · intro p c hc
    rw [x_up_k (by unfold lk; split <;> omega)]
    exact hc
theorem RC.putS {q : Nat → Nat → Int32} {s cp : Nat → Nat} {ls : Nat → List R6} {S : XH} (h : RC q s cp ls S) {m : Nat} (hm : m < 4) (v : Nat) : RC q (fun k => if k = m then v else s k) cp ls (x_up S 3 m (.inl (3, (oM q s m).set 5 (xv_r 49 v)))) := by
  obtain ⟨h0, h1, h2, h3, h4, h5, h6, ⟨f, h7, h7'⟩, h8⟩ := h
  refine ⟨by rw [x_up_k (by decide)]; exact h0, by rw [x_up_k (by decide)]; exact h1, by rw [x_up_k (by decide)]; exact h2, fun m' hm' => ?_, fun w hw => by rw [x_up_k (by decide)]; exact h4 w hw, fun m' hm' => by rw [x_up_k (by decide)]; exact h5 m' hm', fun n hn => by rw [x_up_k (by decide)]; exact h6 n hn, ⟨f, by rw [x_up_k (by decide)]; exact h7, h7'⟩, fun j hj => (h8 j hj).keep ?_ ?_ ?_ ?_⟩
  · by_cases e : m' = m
    · subst e
      rw [x_up_self]
      unfold oM
      simp
    · rw [x_up_ne (by omega), h3 m' hm']
      unfold oM
      simp [e]
  · rw [x_up_k (by decide)]
  · rw [x_up_k (by omega)]
  · rw [x_up_k (by decide)]
  · intro p c hc
    rw [x_up_k (by unfold lk; split <;> omega)]
    exact hc
theorem RC.putJ {q : Nat → Nat → Int32} {s cp : Nat → Nat} {ls : Nat → List R6} {S : XH} (h : RC q s cp ls S) {m : Nat} (hm : m < 5) {t : Nat} (ht : 5 ≤ t ∧ t ≤ 7) (v : Int32) : RC (gs q t (upd (q t) m v)) s cp ls (x_up S 4 m (.inl (4, (oJ q m).set (t - 3) (xv_i v)))) := by
  obtain ⟨h0, h1, h2, h3, h4, h5, h6, ⟨f, h7, h7'⟩, h8⟩ := h
  refine ⟨by rw [x_up_k (by decide)]; exact h0, by rw [x_up_k (by decide)]; exact h1, ?_, fun m' hm' => ?_, fun w hw => ?_, fun m' hm' => ?_, fun n hn => ?_, ⟨f, by rw [x_up_k (by decide)]; exact h7, h7'⟩, fun j hj => (h8 j hj).keep ?_ ?_ ?_ ?_⟩
  · rw [x_up_k (by decide), h2]
    unfold oB
    rw [gs_ne (by omega)]
  · rw [x_up_k (by decide), h3 m' hm']
    unfold oM
    rw [gs_ne (by omega), gs_ne (by omega), gs_ne (by omega), gs_ne (by omega)]
  · by_cases e : w = m
    · subst e
      rw [x_up_self]
      unfold oJ
      rcases (show t = 5 ∨ t = 6 ∨ t = 7 by omega) with rfl | rfl | rfl <;> simp [gs, upd]
    · rw [x_up_ne (by omega), h4 w hw]
      unfold oJ
      rcases (show t = 5 ∨ t = 6 ∨ t = 7 by omega) with rfl | rfl | rfl <;> simp [gs, upd, e]
  · rw [x_up_k (by decide), h5 m' hm']
    unfold oD
    rw [gs_ne (by omega), gs_ne (by omega), gs_ne (by omega), gs_ne (by omega)]
  · rw [x_up_k (by decide), gs_ne (by have := aq_ge n; omega)]
    exact h6 n hn
  · rw [x_up_k (by decide)]
  · rw [x_up_k (by omega)]
  · rw [x_up_k (by decide)]
  · intro p c hc
    rw [x_up_k (by unfold lk; split <;> omega)]
    exact hc
theorem RC.putD {q : Nat → Nat → Int32} {s cp : Nat → Nat} {ls : Nat → List R6} {S : XH} (h : RC q s cp ls S) {m : Nat} (hm : m < 4) {t : Nat} (ht : 8 ≤ t ∧ t ≤ 11) (v : Int32) : RC (gs q t (upd (q t) m v)) s cp ls (x_up S 5 m (.inl (5, (oD q m).set (t - 7) (xv_i v)))) := by
  obtain ⟨h0, h1, h2, h3, h4, h5, h6, ⟨f, h7, h7'⟩, h8⟩ := h
  refine ⟨by rw [x_up_k (by decide)]; exact h0, by rw [x_up_k (by decide)]; exact h1, ?_, fun m' hm' => ?_, fun w hw => ?_, fun m' hm' => ?_, fun n hn => ?_, ⟨f, by rw [x_up_k (by decide)]; exact h7, h7'⟩, fun j hj => (h8 j hj).keep ?_ ?_ ?_ ?_⟩
  · rw [x_up_k (by decide), h2]
    unfold oB
    rw [gs_ne (by omega)]
  · rw [x_up_k (by decide), h3 m' hm']
    unfold oM
    rw [gs_ne (by omega), gs_ne (by omega), gs_ne (by omega), gs_ne (by omega)]
  · rw [x_up_k (by decide), h4 w hw]
    unfold oJ
    rw [gs_ne (by omega), gs_ne (by omega), gs_ne (by omega)]
  · by_cases e : m' = m
    · subst e
      rw [x_up_self]
      unfold oD
      rcases (show t = 8 ∨ t = 9 ∨ t = 10 ∨ t = 11 by omega) with rfl | rfl | rfl | rfl <;> simp [gs, upd]
    · rw [x_up_ne (by omega), h5 m' hm']
      unfold oD
      rcases (show t = 8 ∨ t = 9 ∨ t = 10 ∨ t = 11 by omega) with rfl | rfl | rfl | rfl <;> simp [gs, upd, e]
  · rw [x_up_k (by decide), gs_ne (by have := aq_ge n; omega)]
    exact h6 n hn
  · rw [x_up_k (by decide)]
  · rw [x_up_k (by omega)]
  · rw [x_up_k (by decide)]
  · intro p c hc
    rw [x_up_k (by unfold lk; split <;> omega)]
    exact hc
theorem RC.putB {q : Nat → Nat → Int32} {s cp : Nat → Nat} {ls : Nat → List R6} {S : XH} (h : RC q s cp ls S) {i : Nat} (hi : i < 2) (v : Int32) : RC (gs q 0 (upd (q 0) i v)) s cp ls (x_up S 2 0 (.inl (2, (oB q).set (3 + i) (xv_i v)))) := by
  obtain ⟨h0, h1, h2, h3, h4, h5, h6, ⟨f, h7, h7'⟩, h8⟩ := h
  refine ⟨by rw [x_up_k (by decide)]; exact h0, by rw [x_up_k (by decide)]; exact h1, ?_, fun m' hm' => ?_, fun w hw => ?_, fun m' hm' => ?_, fun n hn => ?_, ⟨f, by rw [x_up_k (by decide)]; exact h7, h7'⟩, fun j hj => (h8 j hj).keep ?_ ?_ ?_ ?_⟩
  · rw [x_up_self]
    unfold oB
    rcases (show i = 0 ∨ i = 1 by omega) with rfl | rfl <;> simp [gs, upd]
  · rw [x_up_k (by decide), h3 m' hm']
    unfold oM
    rw [gs_ne (by omega), gs_ne (by omega), gs_ne (by omega), gs_ne (by omega)]
  · rw [x_up_k (by decide), h4 w hw]
    unfold oJ
    rw [gs_ne (by omega), gs_ne (by omega), gs_ne (by omega)]
  · rw [x_up_k (by decide), h5 m' hm']
    unfold oD
    rw [gs_ne (by omega), gs_ne (by omega), gs_ne (by omega), gs_ne (by omega)]
  · rw [x_up_k (by decide), gs_ne (by have := aq_ge n; omega)]
    exact h6 n hn
  · rw [x_up_k (by decide)]
  · rw [x_up_k (by omega)]
  · rw [x_up_k (by decide)]
  · intro p c hc
    rw [x_up_k (by unfold lk; split <;> omega)]
    exact hc
theorem RC.putA {q : Nat → Nat → Int32} {s cp : Nat → Nat} {ls : Nat → List R6} {S : XH} (h : RC q s cp ls S) {n : Nat} (hn : n < 6) (f' : Nat → Int32) : RC (gs q (aq n) f') s cp ls (x_up S 8 n (.inr (0, an n, .inl f'))) := by
  have ha : 12 ≤ aq n := by
    unfold aq
    split
    · omega
    · split <;> omega
  obtain ⟨h0, h1, h2, h3, h4, h5, h6, ⟨f, h7, h7'⟩, h8⟩ := h
  refine ⟨by rw [x_up_k (by decide)]; exact h0, by rw [x_up_k (by decide)]; exact h1, ?_, fun m' hm' => ?_, fun w hw => ?_, fun m' hm' => ?_, fun n' hn' => ?_, ⟨f, by rw [x_up_k (by decide)]; exact h7, h7'⟩, fun j hj => (h8 j hj).keep ?_ ?_ ?_ ?_⟩
  · rw [x_up_k (by decide), h2]
    unfold oB
    rw [gs_ne (by omega)]
  · rw [x_up_k (by decide), h3 m' hm']
    unfold oM
    rw [gs_ne (by omega), gs_ne (by omega), gs_ne (by omega), gs_ne (by omega)]
  · rw [x_up_k (by decide), h4 w hw]
    unfold oJ
    rw [gs_ne (by omega), gs_ne (by omega), gs_ne (by omega)]
  · rw [x_up_k (by decide), h5 m' hm']
    unfold oD
    rw [gs_ne (by omega), gs_ne (by omega), gs_ne (by omega), gs_ne (by omega)]
  · by_cases e : n' = n
    · subst e
      rw [x_up_self, gs_self]
    · rw [x_up_ne (by omega), gs_ne]
      · exact h6 n' hn'
      · unfold aq
        split
        · split
          · omega
          · split <;> omega
        · split
          · split
            · omega
            · split <;> omega
          · split
            · omega
            · split <;> omega
  · rw [x_up_k (by decide)]
  · rw [x_up_k (by omega)]
  · rw [x_up_k (by decide)]
  · intro p c hc
    rw [x_up_k (by unfold lk; split <;> omega)]
    exact hc
