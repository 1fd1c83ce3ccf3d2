/-! VOIDS when a RECORD comes -/
theorem voids_x {l : List R6} {e : R6} {M : Int32} (h4 : e.1 ≠ 4) (h5 : e.1 ≠ 5) : voidsOf (l ++ [e]) M = voidsOf l M := by
  unfold voidsOf
  rw [List.filter_append, List.filter_cons_of_neg (fun q => h4 (isVb_iff.mp q).1), List.filter_nil, List.append_nil]
  refine List.filter_congr fun x hx => ?_
  rw [Bool.eq_iff_iff, isVb_iff, isVb_iff]
  refine and_congr Iff.rfl (not_congr ⟨?_, ?_⟩)
  · rintro ⟨y, hy, hq⟩
    rcases List.mem_append.mp hy with q | q
    · exact ⟨y, q, hq⟩
    · rw [List.mem_singleton.mp q] at hq
      exact (h5 hq.1).elim
  · rintro ⟨y, hy, hq⟩
    exact ⟨y, List.mem_append_left _ hy, hq⟩
theorem voids_4 {l : List R6} {e : R6} {M : Int32} (h4 : e.1 = 4) (h5 : fR l 5 M e.2.2.1 = none) : voidsOf (l ++ [e]) M = voidsOf l M ++ [e] := by
  have hn : ∀ t, (∃ x ∈ l ++ [e], is6 5 M t x) ↔ ∃ x ∈ l, is6 5 M t x := by
    intro t
    constructor
    · rintro ⟨y, hy, hq⟩
      rcases List.mem_append.mp hy with q | q
      · exact ⟨y, q, hq⟩
      · rw [List.mem_singleton.mp q] at hq
        have := hq.1
        rw [h4] at this
        cases this
    · rintro ⟨y, hy, hq⟩
      exact ⟨y, List.mem_append_left _ hy, hq⟩
  unfold voidsOf
  rw [List.filter_append, List.filter_cons_of_pos, List.filter_nil]
  · congr 1
    refine List.filter_congr fun x hx => ?_
    rw [Bool.eq_iff_iff, isVb_iff, isVb_iff]
    exact and_congr Iff.rfl (not_congr (hn _))
  · rw [isVb_iff]
    refine ⟨h4, fun q => ?_⟩
    obtain ⟨y, hy, hq⟩ := (hn _).mp q
    exact fR_none.mp h5 y hy hq
theorem voids_5 {l : List R6} {e : R6} {M : Int32} (h5 : e.1 = 5) (hm : e.2.1 = M) : voidsOf (l ++ [e]) M = (voidsOf l M).filter (fun x => !(x.2.2.1 == e.2.2.1)) := by
  unfold voidsOf
  rw [List.filter_append, List.filter_cons_of_neg (fun q => by have := (isVb_iff.mp q).1; rw [h5] at this; cases this), List.filter_nil, List.append_nil, List.filter_filter]
  refine List.filter_congr fun x hx => ?_
  rw [Bool.eq_iff_iff, isVb_iff, Bool.and_eq_true, isVb_iff]
  constructor
  · rintro ⟨h1, h2⟩
    refine ⟨?_, h1, fun ⟨y, hy, hq⟩ => h2 ⟨y, List.mem_append_left _ hy, hq⟩⟩
    rw [Bool.not_eq_true', beq_eq_false_iff_ne]
    intro q
    exact h2 ⟨e, List.mem_append_right _ (List.mem_singleton.mpr rfl), h5, hm, q.symm⟩
  · rintro ⟨h3, h1, h2⟩
    refine ⟨h1, fun ⟨y, hy, hq⟩ => ?_⟩
    rcases List.mem_append.mp hy with q | q
    · exact h2 ⟨y, q, hq⟩
    · rw [List.mem_singleton.mp q] at hq
      rw [Bool.not_eq_true', beq_eq_false_iff_ne] at h3
      exact h3 hq.2.2.symm
/-- the VOIDS' traces, as endVoid asks -/
theorem voids_any {m : Nat} {l : List R6} (hm : ∀ e ∈ l, e.2.1 = Int32.ofNat m) (t : Int32) : (∃ x ∈ voidsOf l (Int32.ofNat m), x.2.2.1 = t) ↔ fR l 4 (Int32.ofNat m) t ≠ none ∧ fR l 5 (Int32.ofNat m) t = none := by
  unfold voidsOf
  constructor
  · rintro ⟨x, hx, rfl⟩
    obtain ⟨h1, h2⟩ := List.mem_filter.mp hx
    obtain ⟨h3, h4⟩ := isVb_iff.mp h2
    exact ⟨fR_ex' ⟨x, h1, h3, hm x h1, rfl⟩, fR_none.mpr fun y hy hq => h4 ⟨y, hy, hq⟩⟩
  · rintro ⟨h1, h2⟩
    obtain ⟨x, hx, h3, h4, h5⟩ := fR_ex h1
    refine ⟨x, List.mem_filter.mpr ⟨hx, isVb_iff.mpr ⟨h3, fun ⟨y, hy, hq⟩ => ?_⟩⟩, h5⟩
    rw [h5] at hq
    exact fR_none.mp h2 y hy hq
theorem voids_mem {l : List R6} {M : Int32} {e : R6} (h : e ∈ voidsOf l M) : e ∈ l ∧ e.1 = 4 := by
  obtain ⟨h1, h2⟩ := List.mem_filter.mp h
  exact ⟨h1, (isVb_iff.mp h2).1⟩
theorem Jok.kind {m : Nat} {l : List R6} (h : Jok m l) : ∀ e ∈ l, (e.1 = 4 → ∃ v, 1 ≤ v ∧ v ≤ 1000 ∧ e.2.2.2.2.1 = Int32.ofNat v) ∧ (e.1 = 3 → ∃ v, v ≤ 1000 ∧ e.2.2.2.2.1 = Int32.ofNat v) := by
  revert h
  refine Pok.ind (p := fun l => ∀ e ∈ l, (e.1 = 4 → ∃ v, 1 ≤ v ∧ v ≤ 1000 ∧ e.2.2.2.2.1 = Int32.ofNat v) ∧ (e.1 = 3 → ∃ v, v ≤ 1000 ∧ e.2.2.2.2.1 = Int32.ofNat v)) (fun e he => by cases he) (fun l e hl ih he x hx => ?_) l
  rcases List.mem_append.mp hx with q | q
  · exact ih x q
  · rw [List.mem_singleton.mp q]
    obtain ⟨hm, hc⟩ := he
    rcases hc with ⟨c, -⟩ | ⟨c, -⟩ | ⟨c, -, -, -, -, -, -, c2⟩ | ⟨c, -, -, -, -, -, c2⟩ | ⟨c, -⟩
    · exact ⟨fun q => (by rw [c] at q; cases q), fun q => (by rw [c] at q; cases q)⟩
    · exact ⟨fun q => (by rw [c] at q; cases q), fun q => (by rw [c] at q; cases q)⟩
    · exact ⟨fun q => (by rw [c] at q; cases q), fun _ => c2⟩
    · exact ⟨fun _ => c2, fun q => (by rw [c] at q; cases q)⟩
    · exact ⟨fun q => (by rw [c] at q; cases q), fun q => (by rw [c] at q; cases q)⟩
theorem sum3_snoc (l : List R6) (e : R6) : sum3 (l ++ [e]) = s3step (sum3 l) e := by
  unfold sum3
  rw [List.foldl_append]
  rfl
theorem Jok.sum {m : Nat} {l : List R6} (h : Jok m l) : ∃ s, s ≤ 1000 * l.length ∧ sum3 l = Int32.ofNat s := by
  revert h
  refine Pok.ind (p := fun l => ∃ s, s ≤ 1000 * l.length ∧ sum3 l = Int32.ofNat s) ⟨0, Nat.le_refl _, rfl⟩ (fun l e hl ih he => ?_) l
  obtain ⟨s, h1, h2⟩ := ih
  rw [sum3_snoc, h2, List.length_append]
  unfold s3step
  by_cases q : e.1 = 3
  · rw [if_pos q]
    obtain ⟨v, h3, h4⟩ := (Jok.kind (Pok.snoc hl he) e (List.mem_append_right _ (List.mem_singleton.mpr rfl))).2 q
    refine ⟨s + v, ?_, by rw [h4, z_add]⟩
    show _ ≤ 1000 * (l.length + 1)
    omega
  · rw [if_neg q]
    refine ⟨s, ?_, rfl⟩
    show _ ≤ 1000 * (l.length + 1)
    omega
/-- the amount of the withdrawal asked for last -/
theorem amt_snoc1 {m : Nat} {l : List R6} {e : R6} (h : Jok m l) (he : okrec m l e) (hl : l.length ≤ 2000) (h1 : e.1 = 1) : fR (l ++ [e]) 1 (Int32.ofNat m) (Int32.ofNat (asks (l ++ [e]))) = some e := by
  have ha := asks_le l
  rw [asks_snoc, if_pos h1]
  refine fR_snoc_s ?_ (Jok.beyond h (by omega) (by omega) (by omega) _ _)
  obtain ⟨hm, hc⟩ := he
  rcases hc with ⟨_, c2, -⟩ | ⟨c, _⟩ | ⟨c, _⟩ | ⟨c, _⟩ | ⟨c, _⟩
  · exact ⟨h1, hm, c2⟩
  all_goals
    rw [h1] at c
    cases c
theorem amt_snocx {l : List R6} {e : R6} {M t : Int32} (h : e.1 ≠ 1) : amtOf (l ++ [e]) M t = amtOf l M t := by
  unfold amtOf
  rw [fR_snoc_x fun q => h q.1]
/-- no RECORD 5 before its 4 -/
theorem Jok.four {m : Nat} {l : List R6} (h : Jok m l) {i : Nat} (hi : i < l.length) (h4 : l[i].1 = 4) : fR (l.take i) 5 (Int32.ofNat m) l[i].2.2.1 = none := by
  have := h i hi
  obtain ⟨hm, hc⟩ := this
  rw [hm] at hc
  rcases hc with ⟨c, -⟩ | ⟨c, -⟩ | ⟨c, -⟩ | ⟨c, -, -, -, c5, -⟩ | ⟨c, -⟩
  · rw [h4] at c
    cases c
  · rw [h4] at c
    cases c
  · rw [h4] at c
    cases c
  · exact c5
  · rw [h4] at c
    cases c
/-! the BANK's JOURNAL -/
def okB0 (p : List R6) (e : R6) : Prop :=
  (e.1 = 6 ∧ fR p 6 e.2.1 e.2.2.1 = none ∧ (∃ a, a < 200 ∧ e.2.2.2.1 = Int32.ofNat a) ∧ ∃ r, r < 10 ∧ e.2.2.2.2.2 = Int32.ofNat r) ∨
  (e.1 = 7 ∧ fR p 7 e.2.1 e.2.2.1 = none ∧ (∃ a, a < 200 ∧ e.2.2.2.1 = Int32.ofNat a) ∧ e.2.2.2.2.2 = 0 ∧ (e.2.2.2.2.1 = 0 ∨ (0 < e.2.2.2.2.1 ∧ ∃ q, fR p 6 e.2.1 e.2.2.1 = some q ∧ q.2.2.2.1 = e.2.2.2.1)))
def okB (p : List R6) (e : R6) : Prop := okB0 p e ∧ ∃ v, v ≤ 1000 ∧ e.2.2.2.2.1 = Int32.ofNat v
abbrev Bok : List R6 → Prop := Pok okB
theorem Bok.un {l : List R6} (h : Bok l) : Un l := by
  refine Pok.mono (ok' := fun p e => fR p e.1 e.2.1 e.2.2.1 = none) h fun p e hp hP he => ?_
  rcases he.1 with ⟨c, c2, -⟩ | ⟨c, c2, -⟩
  · rw [c]
    exact c2
  · rw [c]
    exact c2
theorem Pok.at {ok : List R6 → R6 → Prop} {l : List R6} (h : Pok ok l) {e : R6} (he : e ∈ l) : ∃ p q, l = p ++ q ∧ ok p e := by
  obtain ⟨i, hi, rfl⟩ := List.mem_iff_getElem.mp he
  exact ⟨l.take i, l.drop i, (List.take_append_drop i l).symm, h i hi⟩
def bstep (a : Int32) (v : Int32) (e : R6) : Int32 := if e.2.2.2.1 = a then v + (if e.1 = 7 then e.2.2.2.2.1 else if e.2.2.2.2.2 = 0 then -e.2.2.2.2.1 else 0) else v
/-- a BALANCE as the class counts it -/
def balC (l : List R6) (a : Int32) : Int32 := l.foldl (bstep a) 500
theorem foldl_eq {α β : Type} {f g : β → α → β} : ∀ {l : List α}, (∀ v, ∀ e ∈ l, f v e = g v e) → ∀ b, l.foldl f b = l.foldl g b
  | [], _, _ => rfl
  | x :: l, h, b => by
    show l.foldl f (f b x) = l.foldl g (g b x)
    rw [h b x List.mem_cons_self]
    exact foldl_eq (fun v e he => h v e (List.mem_cons_of_mem _ he)) _
theorem Bok.worth {l : List R6} (h : Bok l) (a : Int32) : worthOf l a = balC l a := by
  unfold worthOf balC
  refine foldl_eq (fun v e he => ?_) _
  obtain ⟨p, q, e1, hk⟩ := Pok.at h he
  unfold w2step w1step bstep
  rcases hk.1 with ⟨c, -⟩ | ⟨c, -, -, -, c4⟩
  · rw [c, if_neg (by rintro ⟨q, -⟩; cases q), if_neg (show ¬ ((6 : Int32) = 7) by decide)]
    by_cases q1 : e.2.2.2.1 = a
    · rw [if_pos q1]
      by_cases q2 : e.2.2.2.2.2 = 0
      · rw [if_pos ⟨rfl, q1, q2⟩, if_pos q2]
        grind
      · rw [if_neg (fun q => q2 q.2.2), if_neg q2, Int32.add_zero]
    · rw [if_neg (fun q => q1 q.2.1), if_neg q1]
  · rw [c, if_neg (show ¬ ((7 : Int32) = 6 ∧ _) by rintro ⟨q, -⟩; cases q), if_pos (show (7 : Int32) = 7 from rfl)]
    rcases c4 with c4 | ⟨c4, x, c5, c6⟩
    · rw [c4, if_neg (by rintro ⟨-, q, -⟩; exact absurd q (by decide)), Int32.add_zero]
      split <;> rfl
    · have hf : fR l 6 e.2.1 e.2.2.1 = some x := by
        rw [e1, fR_app (by rw [c5]; simp)]
        exact c5
      rw [hf]
      by_cases q1 : e.2.2.2.1 = a
      · rw [if_pos ⟨rfl, c4, by simp [c6, q1]⟩, if_pos q1]
      · rw [if_neg (by rintro ⟨-, -, q⟩; simp [c6] at q; exact q1 q), if_neg q1]
/-- as the class sums the totals -/
theorem Bok.tot {l : List R6} (h : Bok l) (m t : Int32) : totOf l m t = l.foldl (fun s e => if e.2.1 = m ∧ e.2.2.1 ≤ t then s - (if e.1 = 7 then e.2.2.2.2.1 else if e.2.2.2.2.2 = 0 then -e.2.2.2.2.1 else 0) else s) 0 := by
  unfold totOf
  refine foldl_eq (fun v e he => ?_) _
  obtain ⟨p, q, e1, hk⟩ := Pok.at h he
  unfold tstep t2step t1step
  by_cases q : e.2.1 = m ∧ e.2.2.1 ≤ t
  · rw [if_pos q, if_pos q]
    rcases hk.1 with ⟨c, -⟩ | ⟨c, -⟩
    · rw [c, if_neg (show ¬ (6 : Int32) = 7 by decide), if_neg (show ¬ (6 : Int32) = 7 by decide)]
      by_cases q2 : e.2.2.2.2.2 = 0
      · rw [if_pos ⟨rfl, q2⟩, if_pos q2]
        grind
      · rw [if_neg (fun q => q2 q.2), if_neg q2]
        grind
    · rw [c, if_neg (show ¬ ((7 : Int32) = 6 ∧ _) by rintro ⟨q, -⟩; cases q), if_pos (show (7 : Int32) = 7 from rfl), if_pos (show (7 : Int32) = 7 from rfl)]
  · rw [if_neg q, if_neg q]
