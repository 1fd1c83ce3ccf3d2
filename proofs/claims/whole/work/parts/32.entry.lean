/-! the abstract heap at the law's entry -/
def st_dg (i : Nat) : Nat → Int32 := fun j => (st_byt.getD i []).getD j 0
def st_wth : Nat → Int32 := fun j => ([5, 10, 20, 50] : List Int32).getD j 0
def st_num (i : Nat) : Int32 := ([1, 2, 3, 4] : List Int32).getD i 0
def st_tb (i : Nat) : Int32 := ([1, 0, 1, 0, 1, 0] : List Int32).getD i 0
def st_ha (i : Nat) : Int32 := ([1, 0, 0, 0, 0, 0] : List Int32).getD i 0
def st_hn (i : Nat) : Int32 := ([0, 1, 0, 0, 0, 1] : List Int32).getD i 0
def st_S (L : Nat) (xs : Nat → Int32) : XH := fun k i =>
  if k = 48 then (if i = 0 then some (.inr (0, L, .inl xs)) else none)
  else if k = 49 then (if i < 4 then some (.inl (20, [xv_i (st_num i)])) else none)
  else if k = 50 then (if i < 6 then some (.inl (21, [xv_r 51 i, xv_i (st_tb i), xv_i (st_ha i), xv_i (st_hn i)])) else none)
  else if k = 51 then (if i < 6 then some (.inl (22, [xv_r 52 i, xv_i 0])) else none)
  else if k = 52 then (if i < 6 then some (.inr (2, 4, .inl (st_dg i))) else none)
  else if k = 53 then (if i < 2 then some (.inr (0, 4, .inl st_wth)) else none)
  else if k = 54 then (if i = 0 then some (.inr (3, 0, .inr (.inr (fun _ => none)))) else none)
  else if k = 55 then (if i = 0 then some (.inl (23, [])) else none)
  else if k = 56 then (if i = 0 then some (.inl (23, [])) else none)
  else none
def st_ro (b : Nat) (aS aT aK aV : Nat → Nat) (w0 w1 e0 mi fm : Nat) : XT := fun k i =>
  if k = 48 then b else if k = 49 then aS i else if k = 50 then aT i else if k = 51 then aK i else if k = 52 then aV i else if k = 53 then (if i = 0 then w0 else w1) else if k = 54 then e0 else if k = 55 then mi else fm
theorem st_none {L : Nat} {xs : Nat → Int32} {k i : Nat} (h : k < 48) : st_S L xs k i = none := by
  unfold st_S
  rw [if_neg (by omega), if_neg (by omega), if_neg (by omega), if_neg (by omega), if_neg (by omega), if_neg (by omega), if_neg (by omega), if_neg (by omega), if_neg (by omega)]
/-- the cells at the start, one by one -/
theorem st_cases {L : Nat} {xs : Nat → Int32} {k i : Nat} {c : XC} (h : st_S L xs k i = some c) :
    (k = 48 ∧ i = 0 ∧ c = .inr (0, L, .inl xs)) ∨ (k = 49 ∧ i < 4 ∧ c = .inl (20, [xv_i (st_num i)])) ∨ (k = 50 ∧ i < 6 ∧ c = .inl (21, [xv_r 51 i, xv_i (st_tb i), xv_i (st_ha i), xv_i (st_hn i)])) ∨ (k = 51 ∧ i < 6 ∧ c = .inl (22, [xv_r 52 i, xv_i 0])) ∨
    (k = 52 ∧ i < 6 ∧ c = .inr (2, 4, .inl (st_dg i))) ∨ (k = 53 ∧ i < 2 ∧ c = .inr (0, 4, .inl st_wth)) ∨ (k = 54 ∧ i = 0 ∧ c = .inr (3, 0, .inr (.inr (fun _ => none)))) ∨ ((k = 55 ∨ k = 56) ∧ i = 0 ∧ c = .inl (23, [])) := by
  unfold st_S at h
  by_cases e48 : k = 48
  · rw [if_pos e48] at h
    by_cases ei : i = 0
    · rw [if_pos ei] at h; exact Or.inl ⟨e48, ei, (Option.some.inj h).symm⟩
    · rw [if_neg ei] at h; cases h
  · rw [if_neg e48] at h
    refine Or.inr ?_
    by_cases e49 : k = 49
    · rw [if_pos e49] at h
      by_cases ei : i < 4
      · rw [if_pos ei] at h; exact Or.inl ⟨e49, ei, (Option.some.inj h).symm⟩
      · rw [if_neg ei] at h; cases h
    · rw [if_neg e49] at h
      refine Or.inr ?_
      by_cases e50 : k = 50
      · rw [if_pos e50] at h
        by_cases ei : i < 6
        · rw [if_pos ei] at h; exact Or.inl ⟨e50, ei, (Option.some.inj h).symm⟩
        · rw [if_neg ei] at h; cases h
      · rw [if_neg e50] at h
        refine Or.inr ?_
        by_cases e51 : k = 51
        · rw [if_pos e51] at h
          by_cases ei : i < 6
          · rw [if_pos ei] at h; exact Or.inl ⟨e51, ei, (Option.some.inj h).symm⟩
          · rw [if_neg ei] at h; cases h
        · rw [if_neg e51] at h
          refine Or.inr ?_
          by_cases e52 : k = 52
          · rw [if_pos e52] at h
            by_cases ei : i < 6
            · rw [if_pos ei] at h; exact Or.inl ⟨e52, ei, (Option.some.inj h).symm⟩
            · rw [if_neg ei] at h; cases h
          · rw [if_neg e52] at h
            refine Or.inr ?_
            by_cases e53 : k = 53
            · rw [if_pos e53] at h
              by_cases ei : i < 2
              · rw [if_pos ei] at h; exact Or.inl ⟨e53, ei, (Option.some.inj h).symm⟩
              · rw [if_neg ei] at h; cases h
            · rw [if_neg e53] at h
              refine Or.inr ?_
              by_cases e54 : k = 54
              · rw [if_pos e54] at h
                by_cases ei : i = 0
                · rw [if_pos ei] at h; exact Or.inl ⟨e54, ei, (Option.some.inj h).symm⟩
                · rw [if_neg ei] at h; cases h
              · rw [if_neg e54] at h
                by_cases e55 : k = 55
                · rw [if_pos e55] at h
                  by_cases ei : i = 0
                  · rw [if_pos ei] at h; exact Or.inr ⟨Or.inl e55, ei, (Option.some.inj h).symm⟩
                  · rw [if_neg ei] at h; cases h
                · rw [if_neg e55] at h
                  by_cases e56 : k = 56
                  · rw [if_pos e56] at h
                    by_cases ei : i = 0
                    · rw [if_pos ei] at h; exact Or.inr ⟨Or.inr e56, ei, (Option.some.inj h).symm⟩
                    · rw [if_neg ei] at h; cases h
                  · rw [if_neg e56] at h; cases h
theorem st_51 {L : Nat} {xs : Nat → Int32} {i : Nat} (h : i < 6) : st_S L xs 51 i ≠ none := by
  show (if i < 6 then _ else _) ≠ none
  rw [if_pos h]
  exact fun q => by cases q
theorem st_52 {L : Nat} {xs : Nat → Int32} {i : Nat} (h : i < 6) : st_S L xs 52 i ≠ none := by
  show (if i < 6 then _ else _) ≠ none
  rw [if_pos h]
  exact fun q => by cases q
set_option maxRecDepth 100000 in
set_option maxHeartbeats 4000000 in
theorem st_K {b L : Nat} {xs : Nat → Int32} {s : State} (h : st_at b s) (hX : va_X b L xs s s.heap) : ∃ (D : va_G) (dA : Nat → ClassId) (ro : XT), x_K (D, dA, s.heap.size, s.heap, ro, st_S L xs) s ∧ x_R (D, dA, s.heap.size, s.heap, ro, st_S L xs) ro (st_S L xs) s.heap ∧ ro 48 0 = b := by
  obtain ⟨D, hD⟩ := st_cls h
  obtain ⟨dA, hdA⟩ := st_arr h
  obtain ⟨aS, hS1, hS2⟩ := st_State h
  obtain ⟨aT, hT1, hT2⟩ := st_Type h
  obtain ⟨w0, hw0, hv0⟩ := st_W0 h
  obtain ⟨w1, hw1, hv1⟩ := st_W1 h
  obtain ⟨e0, he0, hf0⟩ := st_E0 h
  obtain ⟨aK, aV, hK1, hK2⟩ := st_dig h
  obtain ⟨mi, hmi⟩ := va_Mi.of (C := "[Ljava/lang/Object;") (h.2 _ (by decide +kernel))
  obtain ⟨fm, hfm⟩ : ∃ fm : Nat, va_Z "jdk/internal/util/Preconditions" "SIOOBE_FORMATTER" "Ljava/util/function/BiFunction;" .null (st_A s) s s.heap ∨ va_Z "jdk/internal/util/Preconditions" "SIOOBE_FORMATTER" "Ljava/util/function/BiFunction;" (.ref fm) (st_A s) s s.heap := by
    rcases (va_Zqof (C := "jdk/internal/util/Preconditions") (n := "SIOOBE_FORMATTER") (d := "Ljava/util/function/BiFunction;") (h.1 _ (by decide +kernel)) (h.1 _ (by decide +kernel)) (h.2 _ (by decide +kernel)) (st_hA s)) with z | ⟨t, z⟩
    · exact ⟨0, Or.inl z⟩
    · exact ⟨t, Or.inr z⟩
  have hscr : va_T .int b L (fun j => .int (xs j)) (st_A s) s s.heap := by
    obtain ⟨scr, h1, h2, h3, h4, h5⟩ := hX
    exact ⟨scr, h1, h2, h3, by omega, by rw [h4], h5, st_hA s b (Array.getElem?_eq_some_iff.mp h1).1⟩
  have hltT : ∀ {ty : FieldType} {t N : Nat} {f : Nat → Value}, va_T ty t N f (st_A s) s s.heap → t < s.heap.size := fun q => by
    obtain ⟨cell, c1, -⟩ := q
    exact (Array.getElem?_eq_some_iff.mp c1).1
  have hltO : ∀ {E : String} {t : Nat}, va_O E t (st_A s) s s.heap → t < s.heap.size := fun q => by
    obtain ⟨cell, c1, -⟩ := q
    exact (Array.getElem?_eq_some_iff.mp c1).1
  refine ⟨D, dA, st_ro b aS aT aK aV w0 w1 e0 mi fm, ⟨⟨hD, fun k q hq => by simp at hq⟩, hdA, ?_, ?_, ?_, st_strs h, (st_thr h).1, (st_thr h).2, rfl, ?_, ?_, (fun q => by cases q), hfm⟩, ⟨?_, ?_, ?_, ?_, fun _ _ => rfl, Nat.le_refl _, ?_⟩, rfl⟩
  · intro k i q n z hk hz
    rcases st_cases hz with ⟨rfl, rfl, e⟩ | ⟨rfl, hi, e⟩ | ⟨rfl, hi, e⟩ | ⟨rfl, hi, e⟩ | ⟨rfl, hi, e⟩ | ⟨rfl, hi, e⟩ | ⟨rfl, rfl, e⟩ | ⟨h5, rfl, e⟩
    · cases e
      exact ⟨.int, rfl, hscr⟩
    · cases e
    · cases e
    · cases e
    · cases e
      have hq := (hK1.1 i hi).2.2.2
      rcases (show i = 0 ∨ i = 1 ∨ i = 2 ∨ i = 3 ∨ i = 4 ∨ i = 5 by omega) with rfl | rfl | rfl | rfl | rfl | rfl <;> exact ⟨.byte, rfl, hq⟩
    · cases e
      rcases (show i = 0 ∨ i = 1 by omega) with rfl | rfl
      · exact ⟨.int, rfl, hv0⟩
      · exact ⟨.int, rfl, hv1⟩
    · cases e
      exact ⟨.object "java/lang/Object", rfl, hf0 _⟩
    · cases e
  · intro k i ci fs hk h55 hz
    rcases st_cases hz with ⟨rfl, rfl, e⟩ | ⟨rfl, hi, e⟩ | ⟨rfl, hi, e⟩ | ⟨rfl, hi, e⟩ | ⟨rfl, hi, e⟩ | ⟨rfl, hi, e⟩ | ⟨rfl, rfl, e⟩ | ⟨h5, rfl, e⟩
    · cases e
    · cases e
      obtain ⟨z1, z2, z3⟩ := hS1.1 i hi
      refine ⟨z2, fun v hv => by rw [List.mem_singleton.mp hv]; trivial, ?_⟩
      intro j o n d v hf hv
      match j, hf, hv with
      | 0, hf, hv =>
        cases hf
        cases hv
        exact z3 _ List.mem_cons_self
      | j + 1, hf, hv => cases hf
    · cases e
      obtain ⟨z1, z2, z3⟩ := hT1.1 i hi
      refine ⟨z2, fun v hv => ?_, ?_⟩
      · simp only [List.mem_cons, List.not_mem_nil, or_false] at hv
        rcases hv with rfl | rfl | rfl | rfl
        · show ¬ 51 < 48
          decide
        · trivial
        · trivial
        · trivial
      · intro j o n d v hf hv
        match j, hf, hv with
        | 0, hf, hv =>
          cases hf
          cases hv
          exact vk_OFof (hT2 i hi) (va_eqv (st_digF h i hi) (hK2 i hi)) (st_hA s)
        | 1, hf, hv =>
          cases hf
          cases hv
          exact z3 _ List.mem_cons_self
        | 2, hf, hv =>
          cases hf
          cases hv
          exact z3 _ (List.mem_cons_of_mem _ List.mem_cons_self)
        | 3, hf, hv =>
          cases hf
          cases hv
          exact z3 _ (List.mem_cons_of_mem _ (List.mem_cons_of_mem _ List.mem_cons_self))
        | j + 4, hf, hv => cases hf
    · cases e
      obtain ⟨z1, z2, z3, z4⟩ := hK1.1 i hi
      refine ⟨z1, fun v hv => ?_, ?_⟩
      · simp only [List.mem_cons, List.not_mem_nil, or_false] at hv
        rcases hv with rfl | rfl
        · show ¬ 52 < 48
          decide
        · trivial
      · intro j o n d v hf hv
        match j, hf, hv with
        | 0, hf, hv =>
          cases hf
          cases hv
          exact z3
        | 1, hf, hv =>
          cases hf
          cases hv
          exact z2
        | j + 2, hf, hv => cases hf
    · cases e
    · cases e
    · cases e
    · omega
  · intro q hq
    simp only [x_sts, List.mem_cons, List.not_mem_nil, or_false] at hq
    rcases hq with rfl | rfl | rfl | rfl | rfl | rfl | rfl | rfl | rfl | rfl | rfl | rfl | rfl | rfl
    · exact ⟨(hS1.1 0 (by decide)).1, fun k i e => by cases e; exact ⟨by decide, fun q => by cases q⟩⟩
    · exact ⟨(hS1.1 1 (by decide)).1, fun k i e => by cases e; exact ⟨by decide, fun q => by cases q⟩⟩
    · exact ⟨(hS1.1 2 (by decide)).1, fun k i e => by cases e; exact ⟨by decide, fun q => by cases q⟩⟩
    · exact ⟨(hS1.1 3 (by decide)).1, fun k i e => by cases e; exact ⟨by decide, fun q => by cases q⟩⟩
    · exact ⟨(hT1.1 0 (by decide)).1, fun k i e => by cases e; exact ⟨by decide, fun q => by cases q⟩⟩
    · exact ⟨(hT1.1 1 (by decide)).1, fun k i e => by cases e; exact ⟨by decide, fun q => by cases q⟩⟩
    · exact ⟨(hT1.1 2 (by decide)).1, fun k i e => by cases e; exact ⟨by decide, fun q => by cases q⟩⟩
    · exact ⟨(hT1.1 3 (by decide)).1, fun k i e => by cases e; exact ⟨by decide, fun q => by cases q⟩⟩
    · exact ⟨(hT1.1 4 (by decide)).1, fun k i e => by cases e; exact ⟨by decide, fun q => by cases q⟩⟩
    · exact ⟨(hT1.1 5 (by decide)).1, fun k i e => by cases e; exact ⟨by decide, fun q => by cases q⟩⟩
    · exact ⟨hw0, fun k i e => by cases e; exact ⟨by decide, fun q => by cases q⟩⟩
    · exact ⟨hw1, fun k i e => by cases e; exact ⟨by decide, fun q => by cases q⟩⟩
    · exact ⟨he0, fun k i e => by cases e; exact ⟨by decide, fun q => by cases q⟩⟩
    · exact ⟨st_CS h, fun k i e => by cases e⟩
  · intro k i j hk hi hj e
    rcases hk with rfl | rfl | rfl | rfl
    · have hi : i < 4 := by
        by_cases z : i < 4
        · exact z
        · exact absurd (if_neg z : st_S L xs 49 i = none) hi
      have hj : j < 4 := by
        by_cases z : j < 4
        · exact z
        · exact absurd (if_neg z : st_S L xs 49 j = none) hj
      exact hS1.2 i j hi hj e
    · have hi : i < 6 := by
        by_cases z : i < 6
        · exact z
        · exact absurd (if_neg z : st_S L xs 50 i = none) hi
      have hj : j < 6 := by
        by_cases z : j < 6
        · exact z
        · exact absurd (if_neg z : st_S L xs 50 j = none) hj
      exact hT1.2 i j hi hj e
    · have hi : i = 0 := by
        by_cases z : i = 0
        · exact z
        · exact absurd (if_neg z : st_S L xs 54 i = none) hi
      have hj : j = 0 := by
        by_cases z : j = 0
        · exact z
        · exact absurd (if_neg z : st_S L xs 54 j = none) hj
      rw [hi, hj]
    · have hi : i = 0 := by
        by_cases z : i = 0
        · exact z
        · exact absurd (if_neg z : st_S L xs 55 i = none) hi
      have hj : j = 0 := by
        by_cases z : j = 0
        · exact z
        · exact absurd (if_neg z : st_S L xs 55 j = none) hj
      rw [hi, hj]
  · intro k i c hk hc
    rcases st_cases hc with ⟨rfl, -⟩ | ⟨rfl, -⟩ | ⟨rfl, -⟩ | ⟨rfl, -⟩ | ⟨rfl, -⟩ | ⟨rfl, -⟩ | ⟨rfl, -⟩ | ⟨h5, rfl, e⟩
    · exact absurd (by decide : (48 : Nat) < 55) hk
    · exact absurd (by decide : (49 : Nat) < 55) hk
    · exact absurd (by decide : (50 : Nat) < 55) hk
    · exact absurd (by decide : (51 : Nat) < 55) hk
    · exact absurd (by decide : (52 : Nat) < 55) hk
    · exact absurd (by decide : (53 : Nat) < 55) hk
    · exact absurd (by decide : (54 : Nat) < 55) hk
    · exact ⟨e, fun z => by subst z; exact hmi⟩
  · intro k i c hk hc
    rw [st_none hk] at hc
    cases hc
  · intro k i c hc
    rcases st_cases hc with ⟨rfl, rfl, rfl⟩ | ⟨rfl, hi, rfl⟩ | ⟨rfl, hi, rfl⟩ | ⟨rfl, hi, rfl⟩ | ⟨rfl, hi, rfl⟩ | ⟨rfl, hi, rfl⟩ | ⟨rfl, rfl, rfl⟩ | ⟨h5, rfl, rfl⟩
    · trivial
    · intro v hv
      rw [List.mem_singleton.mp hv]
      trivial
    · intro v hv
      simp only [List.mem_cons, List.not_mem_nil, or_false] at hv
      rcases hv with rfl | rfl | rfl | rfl
      · exact st_51 hi
      · trivial
      · trivial
      · trivial
    · intro v hv
      simp only [List.mem_cons, List.not_mem_nil, or_false] at hv
      rcases hv with rfl | rfl
      · exact st_52 hi
      · trivial
    · trivial
    · trivial
    · intro j hj
      trivial
    · intro v hv
      cases hv
  · intro k i k' i' hk hk' q
    exact absurd (st_none hk) q
  · intro k i q hk
    exact absurd (st_none hk) q
  · intro k i hk
    refine ⟨rfl, fun q => ⟨rfl, fun h55 => ?_⟩⟩
    cases hc : st_S L xs k i with
    | none => exact absurd hc q
    | some c =>
      rcases st_cases hc with ⟨rfl, rfl, e⟩ | ⟨rfl, hi, e⟩ | ⟨rfl, hi, e⟩ | ⟨rfl, hi, e⟩ | ⟨rfl, hi, e⟩ | ⟨rfl, hi, e⟩ | ⟨rfl, rfl, e⟩ | ⟨h5, rfl, e⟩
      · exact hltT hscr
      · exact hltO (hS1.1 i hi).2.1
      · exact hltO (hT1.1 i hi).2.1
      · exact hltO (hK1.1 i hi).1
      · exact hltT (hK1.1 i hi).2.2.2
      · rcases (show i = 0 ∨ i = 1 by omega) with rfl | rfl
        · exact hltT hv0
        · exact hltT hv1
      · exact hltT (hf0 (fun _ => .null))
      · omega
