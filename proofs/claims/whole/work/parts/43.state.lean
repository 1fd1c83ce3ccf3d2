/-! the state that both programs have: numbers by the model's field numbers (7 left, 8 bytes, 9 the bank's power, 10 state, 11 card, 12 wrong, 13 notes, 14 lastDone, 15 lastValue, 16 allOut, 17 jam, 18 taken), the journals 0 to 4, the messages 5 (type, machine, trace, account, amount, answer) -/
abbrev DS : Type := (Nat → Nat → Int32) × (Nat → List R6)
def dset (d : DS) (n j : Nat) (v : Int32) : DS := (gs d.1 n (upd (d.1 n) j v), d.2)
def dapp (d : DS) (w : Nat) (e : R6) : DS := (d.1, fun k => if k = w then d.2 k ++ [e] else d.2 k)
def dfails (d : DS) (w : Nat) : Prop := d.1 8 w ≤ 16 ∧ d.1 7 w = 0
noncomputable def dfailsb (d : DS) (w : Nat) : Bool := @decide (dfails d w) (Classical.propDecidable _)
theorem dfailsb_iff {d : DS} {w : Nat} : dfailsb d w = true ↔ dfails d w := @decide_eq_true_iff _ (Classical.propDecidable _)
def doff (d : DS) (w : Nat) : DS := if w = 4 then dset d 9 0 0 else dset d 10 w 0
/-- a RECORD is written, or power fails at it -/
noncomputable def drec (d : DS) (w : Nat) (e : R6) : DS := if dfailsb d w = true then doff (dset (if d.1 8 w = 16 then dapp d w e else d) 8 w 17) w else dset (dapp d w e) 7 w (d.1 7 w - 1)
def dsent (d : DS) (e : R6) : DS := if (d.2 5).length = 3000 then d else dapp d 5 e
def dtag (n : Nat) : Bool := n == 7 || n == 8 || (Nat.ble 10 n && Nat.ble n 18)
def MM (g : Nat → Nat → Int32) (l : List R6) : Prop := g 25 0 = Int32.ofNat l.length ∧ l.length ≤ 3000 ∧ ∀ k (h : k < l.length), g 19 k = l[k].1 ∧ g 24 k = l[k].2.1 ∧ g 22 k = l[k].2.2.1 ∧ g 20 k = l[k].2.2.2.1 ∧ g 21 k = l[k].2.2.2.2.1 ∧ g 23 k = l[k].2.2.2.2.2
/-- the model's arrays hold the state -/
def MD (d : DS) (g : Nat → Nat → Int32) : Prop := (∀ n, dtag n = true → g n = d.1 n) ∧ g 9 0 = d.1 9 0 ∧ (∀ w, w < 5 → JM g w (d.2 w)) ∧ MM g (d.2 5)
/-- outside the model's kinds the heap is as it was -/
def fm (S S' : XH) : Prop := ∀ k, k < 15 ∨ 20 ≤ k → S' k = S k
theorem fm.rf {S : XH} : fm S S := fun _ _ => rfl
theorem fm.tr {S S' S'' : XH} (h : fm S S') (h' : fm S' S'') : fm S S'' := fun k q => (h' k q).trans (h k q)
theorem x_up_k {S : XH} {k i k' : Nat} {c : XC} (h : k' ≠ k) : x_up S k i c k' = S k' := by
  funext j
  exact x_up_ne fun q => h q.1
theorem fm.up {S S' : XH} {k i : Nat} {c : XC} (h : fm S S') (h1 : 15 ≤ k) (h2 : k < 20) : fm S (x_up S' k i c) := fun k' q => by
  rw [x_up_k (by omega)]
  exact h k' q
theorem upd_self (f : Nat → Int32) (k : Nat) (x : Int32) : upd f k x k = x := if_pos rfl
theorem upd_ne {f : Nat → Int32} {k j : Nat} {x : Int32} (h : j ≠ k) : upd f k x j = f j := if_neg h
/-- a journal stands where its columns stand -/
theorem JM.keep {g g' : Nat → Nat → Int32} {w : Nat} {l : List R6} (h : JM g w l) (h' : ∀ n, n ≤ 6 → g' n = g n) : JM g' w l := by
  obtain ⟨j1, j2, j3⟩ := h
  refine ⟨?_, j2, fun i hi => ?_⟩
  · rw [h' 6 (by decide)]
    exact j1
  · rw [h' 0 (by decide), h' 1 (by decide), h' 2 (by decide), h' 3 (by decide), h' 4 (by decide), h' 5 (by decide)]
    exact j3 i hi
theorem MM.keep {g g' : Nat → Nat → Int32} {l : List R6} (h : MM g l) (h' : ∀ n, 19 ≤ n → n ≤ 25 → g' n = g n) : MM g' l := by
  obtain ⟨j1, j2, j3⟩ := h
  refine ⟨?_, j2, fun i hi => ?_⟩
  · rw [h' 25 (by decide) (by decide)]
    exact j1
  · rw [h' 19 (by decide) (by decide), h' 20 (by decide) (by decide), h' 21 (by decide) (by decide), h' 22 (by decide) (by decide), h' 23 (by decide) (by decide), h' 24 (by decide) (by decide)]
    exact j3 i hi
/-- a number of the state is set -/
theorem MD.set {d : DS} {g : Nat → Nat → Int32} (h : MD d g) {n : Nat} (hn : dtag n = true) (j : Nat) (v : Int32) : MD (dset d n j v) (gs g n (upd (g n) j v)) := by
  obtain ⟨h1, h2, h3, h4⟩ := h
  have hb : 7 ≤ n ∧ n ≤ 18 ∧ n ≠ 9 := by
    simp [dtag] at hn
    omega
  refine ⟨fun k hk => ?_, ?_, fun w hw => (h3 w hw).keep fun k hk => gs_ne (by omega), h4.keep fun k hk hk' => gs_ne (by omega)⟩
  · show gs g n _ k = gs d.1 n _ k
    by_cases e : k = n
    · subst e
      rw [gs_self, gs_self, h1 k hk]
    · rw [gs_ne e, gs_ne e]
      exact h1 k hk
  · show gs g n _ 9 0 = gs d.1 n _ 9 0
    rw [gs_ne (by omega), gs_ne (by omega)]
    exact h2
theorem MD.set9 {d : DS} {g : Nat → Nat → Int32} (h : MD d g) (v : Int32) : MD (dset d 9 0 v) (gs g 9 (upd (g 9) 0 v)) := by
  obtain ⟨h1, h2, h3, h4⟩ := h
  refine ⟨fun k hk => ?_, ?_, fun w hw => (h3 w hw).keep fun k hk => gs_ne (by omega), h4.keep fun k hk hk' => gs_ne (by omega)⟩
  · have : k ≠ 9 := by
      rintro rfl
      cases hk
    show gs g 9 _ k = gs d.1 9 _ k
    rw [gs_ne this, gs_ne this]
    exact h1 k hk
  · rw [gs_self, upd_self]
    rfl
/-- what is the model's alone is set -/
theorem MD.own {d : DS} {g : Nat → Nat → Int32} (h : MD d g) {n : Nat} (hn : 26 ≤ n) (f : Nat → Int32) : MD d (gs g n f) := by
  obtain ⟨h1, h2, h3, h4⟩ := h
  refine ⟨fun k hk => ?_, ?_, fun w hw => (h3 w hw).keep fun k hk => gs_ne (by omega), h4.keep fun k hk hk' => gs_ne (by omega)⟩
  · have : k ≤ 18 := by
      simp [dtag] at hk
      omega
    rw [gs_ne (by omega)]
    exact h1 k hk
  · rw [gs_ne (by omega)]
    exact h2
/-- a RECORD more -/
def g_rec (g : Nat → Nat → Int32) (w n : Nat) (e : R6) (a b c : Int32) : Nat → Nat → Int32 :=
  gs (gs (gs (gs (gs (gs (gs g 0 (upd (g 0) (1200 * w + n) e.1)) 1 (upd (g 1) (1200 * w + n) e.2.1)) 2 (upd (g 2) (1200 * w + n) e.2.2.1)) 3 (upd (g 3) (1200 * w + n) a)) 4 (upd (g 4) (1200 * w + n) b)) 5 (upd (g 5) (1200 * w + n) c)) 6 (upd (g 6) w (Int32.ofNat n + 1))
theorem g_rec_ne {g : Nat → Nat → Int32} {w n : Nat} {e : R6} {a b c : Int32} {k : Nat} (h : 7 ≤ k) : g_rec g w n e a b c k = g k := by
  unfold g_rec
  rw [gs_ne (by omega), gs_ne (by omega), gs_ne (by omega), gs_ne (by omega), gs_ne (by omega), gs_ne (by omega), gs_ne (by omega)]
theorem MD.rec {d : DS} {g : Nat → Nat → Int32} (h : MD d g) {w : Nat} (hw : w < 5) {e : R6} {a b c : Int32} (hc : (d.2 w).length < jcap w) (he : mrel e a b c) : MD (dapp d w e) (g_rec g w (d.2 w).length e a b c) := by
  obtain ⟨h1, h2, h3, h4⟩ := h
  have hcw := (h3 w hw).2.1
  refine ⟨fun k hk => ?_, ?_, fun w' hw' => ?_, ?_⟩
  · rw [g_rec_ne (by simp [dtag] at hk; omega)]
    exact h1 k hk
  · rw [g_rec_ne (by omega)]
    exact h2
  · obtain ⟨j1, j2, j3⟩ := h3 w' hw'
    show JM _ w' (if w' = w then d.2 w' ++ [e] else d.2 w')
    by_cases ew : w' = w
    · subst ew
      rw [if_pos rfl]
      refine ⟨?_, by rw [List.length_append]; exact hc, fun i hi => ?_⟩
      · show upd (g 6) w' (Int32.ofNat (d.2 w').length + 1) w' = _
        rw [upd_self, z_suc, List.length_append]
        rfl
      · show upd (g 0) _ _ (1200 * w' + i) = _ ∧ upd (g 1) _ _ (1200 * w' + i) = _ ∧ upd (g 2) _ _ (1200 * w' + i) = _ ∧ mrel _ (upd (g 3) _ _ (1200 * w' + i)) (upd (g 4) _ _ (1200 * w' + i)) (upd (g 5) _ _ (1200 * w' + i))
        by_cases ei : i = (d.2 w').length
        · subst ei
          rw [upd_self, upd_self, upd_self, upd_self, upd_self, upd_self, List.getElem_concat_length rfl]
          exact ⟨rfl, rfl, rfl, he⟩
        · have hi' : i < (d.2 w').length := by
            rw [List.length_append] at hi
            change i < _ + 1 at hi
            omega
          rw [upd_ne (by omega), upd_ne (by omega), upd_ne (by omega), upd_ne (by omega), upd_ne (by omega), upd_ne (by omega), List.getElem_append_left hi']
          exact j3 i hi'
    · rw [if_neg ew]
      have hne : ∀ i, i < (d.2 w').length → 1200 * w' + i ≠ 1200 * w + (d.2 w).length := by
        intro i hi
        unfold jcap at hc j2
        split at hc <;> split at j2 <;> omega
      refine ⟨?_, j2, fun i hi => ?_⟩
      · show upd (g 6) w _ w' = _
        rw [upd_ne ew]
        exact j1
      · show upd (g 0) _ _ (1200 * w' + i) = _ ∧ upd (g 1) _ _ (1200 * w' + i) = _ ∧ upd (g 2) _ _ (1200 * w' + i) = _ ∧ mrel _ (upd (g 3) _ _ (1200 * w' + i)) (upd (g 4) _ _ (1200 * w' + i)) (upd (g 5) _ _ (1200 * w' + i))
        have hi' := hne i hi
        rw [upd_ne hi', upd_ne hi', upd_ne hi', upd_ne hi', upd_ne hi', upd_ne hi']
        exact j3 i hi
  · show MM _ (if 5 = w then d.2 5 ++ [e] else d.2 5)
    rw [if_neg (by omega)]
    exact h4.keep fun k hk hk' => g_rec_ne (by omega)
