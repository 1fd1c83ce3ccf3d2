/-! how many VOIDS there can be -/
def c4x (l : List R6) : Nat := (l.filter (fun e => e.1 == 4)).length
theorem c4_snoc (l : List R6) (e : R6) : c4x (l ++ [e]) = c4x l + (if e.1 = 4 then 1 else 0) := by
  unfold c4x
  rw [List.filter_append, List.length_append]
  by_cases h : e.1 = 4
  · rw [if_pos h, List.filter_cons_of_pos (by simp [h])]
    rfl
  · rw [if_neg h, List.filter_cons_of_neg (by simp [h])]
    rfl
theorem Jok.void {m : Nat} {l : List R6} (h : Jok m l) (hl : l.length ≤ 100000) : c4x l ≤ asks l ∧ (fR l 4 (Int32.ofNat m) (Int32.ofNat (asks l)) = none → 1 ≤ asks l → c4x l + 1 ≤ asks l) := by
  revert h hl
  refine Pok.ind (p := fun l => l.length ≤ 100000 → c4x l ≤ asks l ∧ (fR l 4 (Int32.ofNat m) (Int32.ofNat (asks l)) = none → 1 ≤ asks l → c4x l + 1 ≤ asks l)) (fun _ => ⟨Nat.le_refl _, fun _ h => absurd h (by decide)⟩) (fun l e hl ih he hlen => ?_) l
  rw [List.length_append] at hlen
  change l.length + 1 ≤ _ at hlen
  obtain ⟨i1, i2⟩ := ih (by omega)
  have ha := asks_le l
  rw [c4_snoc, asks_snoc]
  obtain ⟨hm, hc⟩ := he
  have same : e.1 ≠ 1 → e.1 ≠ 4 → c4x l + (if e.1 = 4 then 1 else 0) ≤ asks l + (if e.1 = 1 then 1 else 0) ∧ (fR (l ++ [e]) 4 (Int32.ofNat m) (Int32.ofNat (asks l + (if e.1 = 1 then 1 else 0))) = none → 1 ≤ asks l + (if e.1 = 1 then 1 else 0) → c4x l + (if e.1 = 4 then 1 else 0) + 1 ≤ asks l + (if e.1 = 1 then 1 else 0)) := by
    intro n1 n4
    rw [if_neg n1, if_neg n4]
    refine ⟨i1, fun q z => i2 ?_ z⟩
    exact (fR_snoc_n.mp q).1
  rcases hc with ⟨c, c2, -⟩ | ⟨c, -⟩ | ⟨c, -⟩ | ⟨c, a1, c2, c3, -⟩ | ⟨c, -⟩
  · rw [if_pos c, if_neg (by rw [c]; decide)]
    exact ⟨by omega, fun _ _ => by omega⟩
  · exact same (by rw [c]; decide) (by rw [c]; decide)
  · exact same (by rw [c]; decide) (by rw [c]; decide)
  · rw [if_pos c, if_neg (show ¬ e.1 = 1 by rw [c]; decide)]
    rw [hm, c2] at c3
    have := i2 c3 a1
    refine ⟨by omega, fun q _ => ?_⟩
    exact ((fR_snoc_n.mp q).2 ⟨c, hm, c2⟩).elim
  · exact same (by rw [c]; decide) (by rw [c]; decide)
theorem voids_c4 (l : List R6) (M : Int32) : (voidsOf l M).length ≤ c4x l := by
  have : voidsOf l M = ((l.filter (fun e => e.1 == 4)).filter (isVb l M)) := by
    unfold voidsOf
    rw [List.filter_filter]
    refine List.filter_congr fun x hx => ?_
    by_cases q : isVb l M x = true
    · rw [q, (isVb_iff.mp q).1]
      rfl
    · rw [Bool.not_eq_true] at q
      rw [q]
      rfl
  rw [this]
  exact List.length_filter_le _ _
/-! what sending costs: the room of the MESSAGES is a function of their number -/
def gc (cap : Nat) : Nat := if cap = 0 then 10 else cap + cap / 2
def nc : Nat → Nat
  | 0 => 0
  | n + 1 => if n = nc n then gc (nc n) else nc n
theorem nc_ge (n : Nat) (h : 1 ≤ n) : 10 ≤ nc n := by
  induction n with
  | zero => omega
  | succ n ih =>
    unfold nc gc
    by_cases z : n = 0
    · subst z
      decide
    · have := ih (by omega)
      split
      · split <;> omega
      · exact this
theorem nc_le (n : Nat) : n ≤ nc n := by
  induction n with
  | zero => exact Nat.le_refl _
  | succ n ih =>
    have := nc_ge n
    unfold nc gc
    split
    · split <;> omega
    · omega
theorem nc_max (n : Nat) : nc n ≤ 10 ∨ nc n ≤ (n - 1) + (n - 1) / 2 := by
  induction n with
  | zero => exact Or.inl (by decide)
  | succ n ih =>
    unfold nc gc
    split
    · split
      · exact Or.inl (by decide)
      · right
        omega
    · rcases ih with q | q <;> omega
/-- slots and cells, up to n MESSAGES -/
def nS : Nat → Nat
  | 0 => 0
  | n + 1 => nS n + 6 + (if n = nc n then gc (nc n) else 0)
def nK : Nat → Nat
  | 0 => 0
  | n + 1 => nK n + 1 + (if n = nc n then 1 else 0)
theorem nK_le (n : Nat) : nK n ≤ 2 * n := by
  induction n with
  | zero => exact Nat.le_refl _
  | succ n ih =>
    unfold nK
    split <;> omega
theorem nS_le (n : Nat) : nS n ≤ 6 * n + 4 * nc n := by
  induction n with
  | zero => exact Nat.le_refl _
  | succ n ih =>
    have h1 : nS (n + 1) = nS n + 6 + (if n = nc n then gc (nc n) else 0) := rfl
    have h2 : nc (n + 1) = if n = nc n then gc (nc n) else nc n := rfl
    have h3 := nc_ge n
    rw [h1, h2]
    by_cases q : n = nc n
    · rw [if_pos q, if_pos q]
      unfold gc
      by_cases z : nc n = 0
      · rw [if_pos z]
        omega
      · rw [if_neg z]
        have := h3 (by omega)
        omega
    · rw [if_neg q, if_neg q]
      omega
theorem nS_mono {a b : Nat} (h : a ≤ b) : nS a ≤ nS b := by
  induction h with
  | refl => exact Nat.le_refl _
  | step _ ih =>
    refine Nat.le_trans ih ?_
    show _ ≤ nS _ + 6 + _
    omega
theorem nK_mono {a b : Nat} (h : a ≤ b) : nK a ≤ nK b := by
  induction h with
  | refl => exact Nat.le_refl _
  | step _ ih =>
    refine Nat.le_trans ih ?_
    show _ ≤ nK _ + 1 + _
    omega
/-! RECALL: what a machine that wakes reads out of its JOURNAL -/
theorem recall_suc {m : Nat} {l : List R6} (h : Jok m l) (hl : l.length ≤ 2000) {i : Nat} (hi : i < l.length) :
    asks (l.take (i + 1)) = asks (l.take i) + (if l[i].1 = 1 then 1 else 0) ∧
    (l[i].1 = 1 → l[i].2.2.1 = Int32.ofNat (asks (l.take (i + 1))) ∧ amtOf (l.take (i + 1)) (Int32.ofNat m) (Int32.ofNat (asks (l.take (i + 1)))) = l[i].2.2.2.2.1) ∧
    (l[i].1 ≠ 1 → amtOf (l.take (i + 1)) (Int32.ofNat m) (Int32.ofNat (asks (l.take (i + 1)))) = amtOf (l.take i) (Int32.ofNat m) (Int32.ofNat (asks (l.take i)))) ∧
    (l[i].1 = 4 → voidsOf (l.take (i + 1)) (Int32.ofNat m) = voidsOf (l.take i) (Int32.ofNat m) ++ [l[i]]) ∧
    (l[i].1 = 5 → voidsOf (l.take (i + 1)) (Int32.ofNat m) = (voidsOf (l.take i) (Int32.ofNat m)).filter (fun x => !(x.2.2.1 == l[i].2.2.1))) ∧
    (l[i].1 ≠ 4 → l[i].1 ≠ 5 → voidsOf (l.take (i + 1)) (Int32.ofNat m) = voidsOf (l.take i) (Int32.ofNat m)) := by
  have hp : Jok m (l.take i) := by
    intro j hj
    have hj' : j < i := by
      rw [List.length_take] at hj
      omega
    have := h j (by omega)
    rw [List.getElem_take, List.take_take, Nat.min_eq_left (by omega)]
    exact this
  have he := h i hi
  have hlt : (l.take i).length ≤ 2000 := by
    rw [List.length_take]
    omega
  rw [List.take_succ_eq_append_getElem hi]
  refine ⟨asks_snoc _ _, fun q => ⟨?_, ?_⟩, fun q => ?_, fun q => voids_4 q (Jok.four h hi q), fun q => voids_5 q he.1, fun q4 q5 => voids_x q4 q5⟩
  · rw [asks_snoc, if_pos q]
    rcases he.2 with ⟨-, c2, -⟩ | ⟨c, -⟩ | ⟨c, -⟩ | ⟨c, -⟩ | ⟨c, -⟩
    · exact c2
    all_goals
      rw [q] at c
      cases c
  · unfold amtOf
    rw [amt_snoc1 hp he hlt q]
    rfl
  · rw [amt_snocx q, asks_snoc, if_neg q]
    rfl
