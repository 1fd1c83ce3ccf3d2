/-! the pure side: a JOURNAL holds only what was allowed when it was written -/
theorem snoc_ind {α : Type} {p : List α → Prop} (h0 : p []) (h1 : ∀ l e, p l → p (l ++ [e])) (l : List α) : p l := by
  have : ∀ n (l : List α), l.length = n → p l := by
    intro n
    induction n with
    | zero =>
      intro l hl
      rw [List.length_eq_zero_iff.mp hl]
      exact h0
    | succ n ih =>
      intro l hl
      have hne : l ≠ [] := by
        rintro rfl
        cases hl
      rw [← List.dropLast_concat_getLast hne]
      exact h1 _ _ (ih _ (by rw [List.length_dropLast]; omega))
  exact this _ l rfl
theorem fR_snoc_n {l : List R6} {e : R6} {k m t : Int32} : fR (l ++ [e]) k m t = none ↔ fR l k m t = none ∧ ¬ is6 k m t e := by
  rw [fR_none, fR_none]
  constructor
  · intro h
    exact ⟨fun x hx => h x (List.mem_append_left _ hx), h e (List.mem_append_right _ (List.mem_singleton.mpr rfl))⟩
  · rintro ⟨h1, h2⟩ x hx
    rcases List.mem_append.mp hx with q | q
    · exact h1 x q
    · rw [List.mem_singleton.mp q]
      exact h2
theorem fR_snoc_x {l : List R6} {e : R6} {k m t : Int32} (h : ¬ is6 k m t e) : fR (l ++ [e]) k m t = fR l k m t := by
  unfold fR
  rw [List.find?_append]
  have : is6b k m t e = false := by
    cases q : is6b k m t e
    · rfl
    · exact (h (is6b_iff.mp q)).elim
  rw [List.find?_cons_of_neg (by rw [this]; decide), List.find?_nil, Option.or_none]
theorem fR_snoc_s {l : List R6} {e : R6} {k m t : Int32} (h : is6 k m t e) (hn : fR l k m t = none) : fR (l ++ [e]) k m t = some e := by
  unfold fR at hn ⊢
  rw [List.find?_append, hn, List.find?_cons_of_pos (is6b_iff.mpr h)]
  rfl
theorem asks_snoc (l : List R6) (e : R6) : asks (l ++ [e]) = asks l + (if e.1 = 1 then 1 else 0) := by
  unfold asks
  rw [List.filter_append, List.length_append]
  by_cases h : e.1 = 1
  · rw [if_pos h, List.filter_cons_of_pos (by simp [h])]
    rfl
  · rw [if_neg h, List.filter_cons_of_neg (by simp [h])]
    rfl
theorem asks_le (l : List R6) : asks l ≤ l.length := List.length_filter_le _ _
/-- a machine's RECORD, by what stood before it -/
def okrec (m : Nat) (p : List R6) (e : R6) : Prop :=
  e.2.1 = Int32.ofNat m ∧ (
   (e.1 = 1 ∧ e.2.2.1 = Int32.ofNat (asks p + 1) ∧ (∃ v, 5 ≤ v ∧ v ≤ 1000 ∧ e.2.2.2.2.1 = Int32.ofNat v) ∧ ∃ a, a < 200 ∧ e.2.2.2.1 = Int32.ofNat a) ∨
   (e.1 = 2 ∧ 1 ≤ asks p ∧ e.2.2.1 = Int32.ofNat (asks p) ∧ fR p 2 e.2.1 e.2.2.1 = none ∧ fR p 3 e.2.1 e.2.2.1 = none ∧ fR p 4 e.2.1 e.2.2.1 = none ∧ fR p 5 e.2.1 e.2.2.1 = none) ∨
   (e.1 = 3 ∧ 1 ≤ asks p ∧ e.2.2.1 = Int32.ofNat (asks p) ∧ fR p 2 e.2.1 e.2.2.1 ≠ none ∧ fR p 3 e.2.1 e.2.2.1 = none ∧ fR p 4 e.2.1 e.2.2.1 = none ∧ fR p 5 e.2.1 e.2.2.1 = none ∧ ∃ v, v ≤ 1000 ∧ e.2.2.2.2.1 = Int32.ofNat v) ∨
   (e.1 = 4 ∧ 1 ≤ asks p ∧ e.2.2.1 = Int32.ofNat (asks p) ∧ fR p 4 e.2.1 e.2.2.1 = none ∧ fR p 5 e.2.1 e.2.2.1 = none ∧ (fR p 2 e.2.1 e.2.2.1 = none ∨ fR p 3 e.2.1 e.2.2.1 ≠ none) ∧ ∃ v, 1 ≤ v ∧ v ≤ 1000 ∧ e.2.2.2.2.1 = Int32.ofNat v) ∨
   (e.1 = 5 ∧ (∃ t, 1 ≤ t ∧ t ≤ asks p ∧ e.2.2.1 = Int32.ofNat t) ∧ fR p 5 e.2.1 e.2.2.1 = none ∧ (fR p 4 e.2.1 e.2.2.1 ≠ none ∨ (fR p 2 e.2.1 e.2.2.1 = none ∧ fR p 3 e.2.1 e.2.2.1 = none ∧ fR p 4 e.2.1 e.2.2.1 = none))))
def Pok (ok : List R6 → R6 → Prop) (l : List R6) : Prop := ∀ i (h : i < l.length), ok (l.take i) l[i]
theorem Pok.nil {ok : List R6 → R6 → Prop} : Pok ok [] := fun i h => by cases h
theorem Pok.snoc {ok : List R6 → R6 → Prop} {l : List R6} {e : R6} (h : Pok ok l) (he : ok l e) : Pok ok (l ++ [e]) := by
  intro i hi
  by_cases q : i = l.length
  · subst q
    rw [List.take_left, List.getElem_concat_length rfl]
    exact he
  · have hi' : i < l.length := by
      rw [List.length_append] at hi
      change i < _ + 1 at hi
      omega
    rw [List.getElem_append_left hi', List.take_append_of_le_length (by omega)]
    exact h i hi'
theorem Pok.pre {ok : List R6 → R6 → Prop} {l : List R6} {e : R6} (h : Pok ok (l ++ [e])) : Pok ok l ∧ ok l e := by
  refine ⟨fun i hi => ?_, ?_⟩
  · have := h i (by rw [List.length_append]; omega)
    rw [List.getElem_append_left hi, List.take_append_of_le_length (by omega)] at this
    exact this
  · have := h l.length (by rw [List.length_append]; exact Nat.lt_succ_self _)
    rw [List.take_left, List.getElem_concat_length rfl] at this
    exact this
theorem Pok.ind {ok : List R6 → R6 → Prop} {p : List R6 → Prop} (h0 : p []) (h1 : ∀ l e, Pok ok l → p l → ok l e → p (l ++ [e])) (l : List R6) : Pok ok l → p l := by
  refine snoc_ind (p := fun l => Pok ok l → p l) (fun _ => h0) (fun l e ih h => ?_) l
  exact h1 l e h.pre.1 (ih h.pre.1) h.pre.2
abbrev Jok (m : Nat) : List R6 → Prop := Pok (okrec m)
theorem okrec.tr {m : Nat} {p : List R6} {e : R6} (h : okrec m p e) : ∃ t, 1 ≤ t ∧ t ≤ asks (p ++ [e]) ∧ e.2.2.1 = Int32.ofNat t := by
  obtain ⟨-, h⟩ := h
  rw [asks_snoc]
  rcases h with ⟨h1, h2, -⟩ | ⟨h1, h2, h3, -⟩ | ⟨h1, h2, h3, -⟩ | ⟨h1, h2, h3, -⟩ | ⟨h1, ⟨t, h2, h3, h4⟩, -⟩
  · exact ⟨_, by omega, by rw [if_pos h1]; exact Nat.le_refl _, h2⟩
  · exact ⟨_, h2, by omega, h3⟩
  · exact ⟨_, h2, by omega, h3⟩
  · exact ⟨_, h2, by omega, h3⟩
  · exact ⟨t, h2, by omega, h4⟩
theorem Jok.mem {m : Nat} {l : List R6} (h : Jok m l) : ∀ e ∈ l, e.2.1 = Int32.ofNat m ∧ ∃ t, 1 ≤ t ∧ t ≤ asks l ∧ e.2.2.1 = Int32.ofNat t := by
  revert h
  refine Pok.ind (p := fun l => ∀ e ∈ l, e.2.1 = Int32.ofNat m ∧ ∃ t, 1 ≤ t ∧ t ≤ asks l ∧ e.2.2.1 = Int32.ofNat t) (fun e he => by cases he) (fun l e hl ih he x hx => ?_) l
  rcases List.mem_append.mp hx with q | q
  · obtain ⟨h1, t, h2, h3, h4⟩ := ih x q
    exact ⟨h1, t, h2, by rw [asks_snoc]; omega, h4⟩
  · rw [List.mem_singleton.mp q]
    exact ⟨he.1, he.tr⟩
/-- no trace beyond the last that was asked for -/
theorem Jok.beyond {m : Nat} {l : List R6} (h : Jok m l) (hl : l.length ≤ 100000) {t : Nat} (ht : asks l < t) (ht' : t ≤ 100001) (k m' : Int32) : fR l k m' (Int32.ofNat t) = none := by
  rw [fR_none]
  rintro e he ⟨-, -, h3⟩
  obtain ⟨-, s, h4, h5, h6⟩ := h.mem e he
  have := asks_le l
  rw [h6, z_eq (by omega) (by omega)] at h3
  omega
theorem Jok.ask {m : Nat} {l : List R6} (h : Jok m l) (hl : l.length ≤ 100000) : ∀ t, 1 ≤ t → t ≤ asks l → ∃ e, fR l 1 (Int32.ofNat m) (Int32.ofNat t) = some e ∧ (∃ v, 5 ≤ v ∧ v ≤ 1000 ∧ e.2.2.2.2.1 = Int32.ofNat v) ∧ ∃ a, a < 200 ∧ e.2.2.2.1 = Int32.ofNat a := by
  revert h hl
  refine Pok.ind (p := fun l => l.length ≤ 100000 → ∀ t, 1 ≤ t → t ≤ asks l → ∃ e, fR l 1 (Int32.ofNat m) (Int32.ofNat t) = some e ∧ (∃ v, 5 ≤ v ∧ v ≤ 1000 ∧ e.2.2.2.2.1 = Int32.ofNat v) ∧ ∃ a, a < 200 ∧ e.2.2.2.1 = Int32.ofNat a) (fun hl t h1 h2 => absurd h2 (by show ¬ t ≤ 0; omega)) (fun l e hl ih he hlen t h1 h2 => ?_) l
  rw [List.length_append] at hlen
  change l.length + 1 ≤ _ at hlen
  by_cases q : t ≤ asks l
  · obtain ⟨x, h3, h4⟩ := ih (by omega) t h1 q
    exact ⟨x, by rw [fR_app (by rw [h3]; simp)]; exact h3, h4⟩
  · rw [asks_snoc] at h2
    have h1' : e.1 = 1 := by
      by_cases q' : e.1 = 1
      · exact q'
      · rw [if_neg q'] at h2
        omega
    rw [if_pos h1'] at h2
    have ht : t = asks l + 1 := by omega
    obtain ⟨hm, hc⟩ := he
    rcases hc with ⟨_, c2, c3, c4⟩ | ⟨c, _⟩ | ⟨c, _⟩ | ⟨c, _⟩ | ⟨c, _⟩
    · exact ⟨e, fR_snoc_s ⟨h1', hm, by rw [ht]; exact c2⟩ (Jok.beyond hl (by omega) (by omega) (by have := asks_le l; omega) _ _), c3, c4⟩
    all_goals
      rw [h1'] at c
      cases c
/-- 4 or 5 came: 2 has its 3 -/
theorem Jok.two {m : Nat} {l : List R6} (h : Jok m l) : ∀ t, (fR l 4 (Int32.ofNat m) t ≠ none ∨ fR l 5 (Int32.ofNat m) t ≠ none) → (fR l 2 (Int32.ofNat m) t = none ∨ fR l 3 (Int32.ofNat m) t ≠ none) := by
  revert h
  refine Pok.ind (p := fun l => ∀ t, (fR l 4 (Int32.ofNat m) t ≠ none ∨ fR l 5 (Int32.ofNat m) t ≠ none) → (fR l 2 (Int32.ofNat m) t = none ∨ fR l 3 (Int32.ofNat m) t ≠ none)) (fun t h => Or.inl rfl) (fun l e hl ih he t h => ?_) l
  have app : ∀ k, fR l k (Int32.ofNat m) t ≠ none → fR (l ++ [e]) k (Int32.ofNat m) t ≠ none := fun k hk => by
    rw [fR_app hk]
    exact hk
  by_cases ht : e.2.2.1 = t
  · subst ht
    obtain ⟨hm, hc⟩ := he
    rw [← hm] at h app ih ⊢
    have ih := ih e.2.2.1
    have n : ∀ k, e.1 ≠ k → fR (l ++ [e]) k e.2.1 e.2.2.1 = fR l k e.2.1 e.2.2.1 := fun k hk => fR_snoc_x fun q => hk q.1
    rcases hc with ⟨c, -⟩ | ⟨c, -, -, -, -, c4, c5⟩ | ⟨c, -, -, -, -, c4, c5, -⟩ | ⟨c, -, -, c4, c5, c6, -⟩ | ⟨c, -, c5, c6⟩
    · rw [n 4 (by rw [c]; decide), n 5 (by rw [c]; decide)] at h
      rw [n 2 (by rw [c]; decide), n 3 (by rw [c]; decide)]
      exact ih h
    · rw [n 4 (by rw [c]; decide), n 5 (by rw [c]; decide), c4, c5] at h
      rcases h with h | h <;> exact (h rfl).elim
    · rw [n 4 (by rw [c]; decide), n 5 (by rw [c]; decide), c4, c5] at h
      rcases h with h | h <;> exact (h rfl).elim
    · rw [n 2 (by rw [c]; decide), n 3 (by rw [c]; decide)]
      exact c6
    · rw [n 2 (by rw [c]; decide), n 3 (by rw [c]; decide)]
      rcases c6 with c6 | ⟨c6, -⟩
      · exact ih (Or.inl c6)
      · exact Or.inl c6
  · have n : ∀ k, fR (l ++ [e]) k (Int32.ofNat m) t = fR l k (Int32.ofNat m) t := fun k => fR_snoc_x fun q => ht q.2.2
    rw [n, n] at h ⊢
    exact ih t h
/-- 3 came and 5: so did 4; 3 came: so did 2 -/
theorem Jok.three {m : Nat} {l : List R6} (h : Jok m l) : ∀ t, fR l 3 (Int32.ofNat m) t ≠ none → fR l 2 (Int32.ofNat m) t ≠ none ∧ (fR l 5 (Int32.ofNat m) t ≠ none → fR l 4 (Int32.ofNat m) t ≠ none) := by
  revert h
  refine Pok.ind (p := fun l => ∀ t, fR l 3 (Int32.ofNat m) t ≠ none → fR l 2 (Int32.ofNat m) t ≠ none ∧ (fR l 5 (Int32.ofNat m) t ≠ none → fR l 4 (Int32.ofNat m) t ≠ none)) (fun t h => (h rfl).elim) (fun l e hl ih he t h => ?_) l
  by_cases ht : e.2.2.1 = t
  · subst ht
    obtain ⟨hm, hc⟩ := he
    rw [← hm] at h ih ⊢
    have ih := ih e.2.2.1
    have n : ∀ k, e.1 ≠ k → fR (l ++ [e]) k e.2.1 e.2.2.1 = fR l k e.2.1 e.2.2.1 := fun k hk => fR_snoc_x fun q => hk q.1
    have y : ∀ k, e.1 = k → fR (l ++ [e]) k e.2.1 e.2.2.1 ≠ none := fun k hk q => (fR_snoc_n.mp q).2 ⟨hk, rfl, rfl⟩
    rcases hc with ⟨c, -⟩ | ⟨c, -, -, -, c3, -, -⟩ | ⟨c, -, -, c2, -, c4, c5, -⟩ | ⟨c, -, -, c4, c5, c6, -⟩ | ⟨c, -, c5, c6⟩
    · rw [n 3 (by rw [c]; decide)] at h
      rw [n 2 (by rw [c]; decide), n 4 (by rw [c]; decide), n 5 (by rw [c]; decide)]
      exact ih h
    · rw [n 3 (by rw [c]; decide)] at h
      exact (h c3).elim
    · rw [n 2 (by rw [c]; decide), n 5 (by rw [c]; decide)]
      exact ⟨c2, fun q => (q c5).elim⟩
    · rw [n 3 (by rw [c]; decide)] at h
      rw [n 2 (by rw [c]; decide)]
      exact ⟨(ih h).1, fun _ => y 4 c⟩
    · rw [n 3 (by rw [c]; decide)] at h
      rw [n 2 (by rw [c]; decide), n 4 (by rw [c]; decide)]
      refine ⟨(ih h).1, fun _ => ?_⟩
      rcases c6 with c6 | ⟨-, c6, -⟩
      · exact c6
      · exact (h c6).elim
  · have n : ∀ k, fR (l ++ [e]) k (Int32.ofNat m) t = fR l k (Int32.ofNat m) t := fun k => fR_snoc_x fun q => ht q.2.2
    rw [n] at h
    rw [n, n, n]
    exact ih t h
/-- no RECORD twice -/
def Un (l : List R6) : Prop := ∀ i (h : i < l.length), fR (l.take i) l[i].1 l[i].2.1 l[i].2.2.1 = none
theorem Un.at {l : List R6} (h : Un l) {i : Nat} (hi : i < l.length) {k m t : Int32} (hk : is6 k m t l[i]) : fR l k m t = some l[i] := by
  refine fR_first hi hk fun j hj hq => ?_
  have := fR_none.mp (h i hi) l[j] (by
    rw [List.mem_take_iff_getElem]
    exact ⟨j, by omega, rfl⟩)
  exact this ⟨hq.1.trans hk.1.symm, hq.2.1.trans hk.2.1.symm, hq.2.2.trans hk.2.2.symm⟩
theorem Pok.mono {ok ok' : List R6 → R6 → Prop} {l : List R6} (h : Pok ok l) (h' : ∀ p e, p.length < l.length → Pok ok p → ok p e → ok' p e) : Pok ok' l := by
  intro i hi
  refine h' _ _ (by rw [List.length_take]; omega) (fun j hj => ?_) (h i hi)
  have hj' : j < i := by
    rw [List.length_take] at hj
    omega
  have := h j (by omega)
  rw [List.getElem_take, List.take_take, Nat.min_eq_left (by omega)]
  exact this
theorem Jok.un {m : Nat} {l : List R6} (h : Jok m l) (hl : l.length ≤ 100000) : Un l := by
  refine Pok.mono (ok' := fun p e => fR p e.1 e.2.1 e.2.2.1 = none) h fun p e hp hP he => ?_
  obtain ⟨hm, hc⟩ := he
  have ha := asks_le p
  rcases hc with ⟨c, c2, -⟩ | ⟨c, -, -, c2, -⟩ | ⟨c, -, -, -, c3, -⟩ | ⟨c, -, -, c4, -⟩ | ⟨c, -, c5, -⟩
  · rw [c2]
    exact Jok.beyond hP (by omega) (by omega) (by omega) _ _
  all_goals
    rw [c]
    assumption
